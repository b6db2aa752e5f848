/** The cases of the acts themselves, seen by judge, behind and line: promises 8 to 10. */
final class ActEdges extends Cases {
    private ActEdges() { }

    // ---- why an act can not be

    @Says("1 the YARD would not be 0 to 999 (it that goes)")
    static void p08_judge_why_1_back_below_yard_0() {
        canNotBe(new MittenLine(), "A<1", 0, 1);
        canNotBe(new MittenLine(), "A<9", 0, 1);
        canNotBe(new MittenLine(), "A>4A<5", 1, 1);
    }

    @Says("1 the YARD would not be 0 to 999 (it that goes)")
    static void p08_judge_back_to_yard_0_can_be() {
        MittenLine x = new MittenLine();
        canBe(x, "A>4A<4");
        same("behind(0, 0)", x.behind(0, 0), 0);
        canBe(x, "B<9B<1");
        same("behind(1, 0)", x.behind(1, 0), 0);
    }

    @Says("1 the YARD would not be 0 to 999 (it that goes)")
    static void p08_judge_why_1_on_beyond_yard_999() {
        canNotBe(allAt(999), "J>1", 0, 1);
        canNotBe(allAt(999), "A>9", 0, 1);
        canNotBe(allAt(995), "E>5", 0, 1);
    }

    @Says("1 the YARD would not be 0 to 999 (it that goes)")
    static void p08_judge_on_to_yard_999_can_be() {
        MittenLine x = allAt(998);
        canBe(x, "J>1");
        same("behind(9, 0)", x.behind(9, 0), 999);
        MittenLine y = allAt(990);
        canBe(y, "A>9");
        same("behind(0, 0)", y.behind(0, 0), 999);
    }

    @Says("2 it that goes HOLDS fast")
    static void p08_judge_why_2_it_that_goes_HOLDS() {
        canNotBe(holding(1 << 4), "E>1", 0, 2);
        canNotBe(holding(1 << 4), "E<1", 0, 2);
        canNotBe(new MittenLine(), "J#J>1", 1, 2);
    }

    @Says("# (it HOLDS fast, or no more)")
    static void p08_judge_one_that_HOLDS_no_more_can_go() {
        canBe(holding(1 << 4), "E#E>1");
        canBe(new MittenLine(), "A#A#A>1");
    }

    @Says("or one who does would be DRAWN (>, <)")
    static void p08_judge_why_2_the_next_one_HOLDS_and_would_be_DRAWN_a_yard() {
        canNotBe(holding(1 << 3), "E>6", 0, 2);
        canNotBe(holding(1 << 5), "E<6", 0, 2);
        canNotBe(holding(1), "B>6", 0, 2);
        canNotBe(holding(1 << 9), "I<6", 0, 2);
    }

    @Says("the next one on either side, were it too far off then, is DRAWN")
    static void p08_judge_the_next_one_HOLDS_and_the_STRING_is_TAUT_then_can_be() {
        canBe(holding(1 << 3), "E>5");
        canBe(holding(1 << 5), "E<5");
        canBe(holding(1), "B>5");
        canBe(holding(1 << 9), "I<5");
    }

    @Says("or one who does would be DRAWN (>, <)")
    static void p08_judge_why_2_one_further_along_HOLDS_and_would_be_DRAWN() {
        MittenLine x = withStrings(10);
        x.child(0, 0, 1);
        canNotBe(x, "J>1", 0, 2);
        MittenLine y = withStrings(10);
        y.child(9, 90, 1);
        canNotBe(y, "B<1", 0, 2);
        canNotBe(holding(1 << 2), "E>9E>2", 1, 2);
    }

    @Says("and so on")
    static void p08_judge_one_further_along_HOLDS_and_is_not_DRAWN_can_be() {
        canBe(holding(1 << 2), "E>6");
        canBe(holding(1 << 6), "E<6");
        canBe(holding(1 << 2), "E>9E>1");
        MittenLine x = holding(1);
        x.string(0, 11);
        canBe(x, "C>6");
        canNotBe(x, "C>7", 0, 2);
    }

    @Says("An ACT can not be for the least of these reasons")
    static void p08_judge_why_1_ahead_of_2() {
        canNotBe(holding(1), "A<1", 0, 1);
        MittenLine x = allAt(999);
        x.child(9, 999, 1);
        canNotBe(x, "J>1", 0, 1);
        MittenLine next = new MittenLine();
        next.child(1, 10, 1);
        next.child(0, 0, 0);
        next.string(0, 10);
        canNotBe(next, "A<1", 0, 1);
    }

    @Says("2 it that goes HOLDS fast, or one who does would be DRAWN (>, <)")
    static void p08_judge_HOLDING_hinders_nothing_but_steps() {
        MittenLine x = holding(1023);
        canBe(x, "A#A#E!9A+B-J!9.A#");
        same("judge(2)", x.judge(2), 0);
    }

    @Says("3 there is no next one (+, -)")
    static void p08_judge_why_3_the_last_one_lets_out_or_winds() {
        canNotBe(new MittenLine(), "J+", 0, 3);
        canNotBe(new MittenLine(), "J-", 0, 3);
        canNotBe(new MittenLine(), ".J#J-", 2, 3);
    }

    @Says("3 there is no next one (+, -)")
    static void p08_judge_the_last_but_one_and_the_first_let_out_and_wind_can_be() {
        canBe(new MittenLine(), "I+I-I-A+A-A-");
    }

    @Says("An ACT can not be for the least of these reasons")
    static void p08_judge_why_3_ahead_of_4() {
        canNotBe(withBall(0), "J+", 0, 3);
    }

    @Says("4 the BALL is empty (+)")
    static void p08_judge_why_4_the_BALL_is_empty() {
        canNotBe(withBall(0), "A+", 0, 4);
        canNotBe(withBall(0), "I+", 0, 4);
        canNotBe(withBall(1), "A+B+", 1, 4);
    }

    @Says("4 the BALL is empty (+)")
    static void p08_judge_the_last_yard_of_the_BALL_let_out_can_be() {
        MittenLine x = withBall(1);
        canBe(x, "A+");
        same("line(1)", x.line(1), 0);
        canBe(x, "A+A-A+");
    }

    @Says("4 the BALL is empty (+)")
    static void p08_judge_winding_onto_an_empty_BALL_can_be() {
        MittenLine x = withBall(0);
        canBe(x, "A-");
        same("line(1)", x.line(1), 1);
    }

    @Says("An ACT can not be for the least of these reasons")
    static void p08_judge_why_4_ahead_of_5() {
        MittenLine x = withBall(0);
        x.string(0, 99);
        canNotBe(x, "A+", 0, 4);
    }

    @Says("5 it is 99 yards long already (+)")
    static void p08_judge_why_5_let_out_at_99_yards() {
        canNotBe(withString(0, 99), "A+", 0, 5);
        canNotBe(withString(8, 99), "I+", 0, 5);
        canNotBe(withString(0, 98), "A+A+", 1, 5);
    }

    @Says("5 it is 99 yards long already (+)")
    static void p08_judge_let_out_at_98_yards_can_be() {
        MittenLine x = withString(0, 98);
        canBe(x, "A+");
        same("line(2)", x.line(2), 99 + 8 * 15);
    }

    @Says("5 it is 99 yards long already (+), TAUT, or 1 long (-)")
    static void p08_judge_wound_at_99_yards_and_let_out_if_TAUT_can_be() {
        canBe(withString(0, 99), "A-");
        canBe(withString(0, 10), "A+");
    }

    @Says("TAUT, or 1 long (-)")
    static void p08_judge_why_5_wound_if_TAUT() {
        canNotBe(withString(0, 10), "A-", 0, 5);
        canNotBe(withString(8, 11), "I-I-", 1, 5);
        canNotBe(new MittenLine(), "E<5E-", 1, 5);
    }

    @Says("TAUT, or 1 long (-)")
    static void p08_judge_why_5_wound_if_TAUT_the_next_one_being_back() {
        MittenLine x = new MittenLine();
        x.child(0, 25, 0);
        canNotBe(x, "A-", 0, 5);
    }

    @Says("TAUT, or 1 long (-)")
    static void p08_judge_wound_a_yard_above_TAUT_can_be() {
        MittenLine x = withString(0, 11);
        canBe(x, "A-");
        same("line(0)", x.line(0), 1);
    }

    @Says("TAUT, or 1 long (-)")
    static void p08_judge_why_5_wound_at_1_yard() {
        canNotBe(firstTwoTogether(1), "A-", 0, 5);
        canNotBe(firstTwoTogether(2), "A-A-", 1, 5);
    }

    @Says("TAUT, or 1 long (-)")
    static void p08_judge_wound_at_2_yards_can_be() {
        MittenLine x = firstTwoTogether(2);
        canBe(x, "A-");
        same("line(2)", x.line(2), 1 + 8 * 15);
    }

    @Says("onto the BALL, 999 at most, else the yard is lost")
    static void p08_judge_wound_onto_a_full_BALL_can_be() {
        canBe(withBall(999), "A-");
        canBe(withBall(998), "A-A-A-");
    }

    @Says("6 it is day 99 (.)")
    static void p08_judge_why_6_a_day_more_at_day_99() {
        canNotBe(atDay(99), ".", 0, 6);
        canNotBe(atDay(98), "..", 1, 6);
    }

    @Says("6 it is day 99 (.)")
    static void p08_judge_a_day_more_at_day_98_can_be() {
        MittenLine x = atDay(98);
        canBe(x, ".");
        same("line(3)", x.line(3), 99);
    }

    @Says("6 it is day 99 (.)")
    static void p08_judge_all_else_at_day_99_can_be() {
        canBe(atDay(99), "A>1B<1C#D!9E+F-");
    }

    // ---- steps

    @Says("it goes so many YARDS on, or back")
    static void p09_behind_a_step_of_1_to_9_on_and_back() {
        for (int d = 1; d <= 9; d++) {
            MittenLine x = withStrings(99);
            Due.say(x, "E>" + d);
            yards("E>" + d, x, 0, 10, 20, 30, 40 + d, 50, 60, 70, 80, 90);
            x.wipe();
            Due.say(x, "E<" + d);
            yards("E<" + d, x, 0, 10, 20, 30, 40 - d, 50, 60, 70, 80, 90);
        }
    }

    @Says("the next one on either side, were it too far off then, is DRAWN along")
    static void p09_behind_the_next_one_is_not_DRAWN_if_the_STRING_is_TAUT_then() {
        yards("E>5", Due.told("E>5"), 0, 10, 20, 30, 45, 50);
        same("E>5 judge(2)", Due.told("E>5").judge(2), 0);
        yards("E<5", Due.told("E<5"), 0, 10, 20, 30, 35, 50);
        same("E<5 judge(2)", Due.told("E<5").judge(2), 0);
    }

    @Says("is DRAWN along till the STRING is TAUT")
    static void p09_behind_the_next_one_is_DRAWN_till_the_STRING_is_TAUT() {
        yards("E>6", Due.told("E>6"), 0, 10, 20, 31, 46, 50);
        same("E>6 line(0)", Due.told("E>6").line(0), 1 << 3);
        yards("E<6", Due.told("E<6"), 0, 10, 20, 30, 34, 49, 60);
        same("E<6 line(0)", Due.told("E<6").line(0), 1 << 4);
        yards("E>9", Due.told("E>9"), 0, 10, 20, 34, 49, 50);
    }

    @Says("is DRAWN along till the STRING is TAUT")
    static void p09_behind_the_next_one_is_DRAWN_close_to_yards_999_and_0() {
        MittenLine x = allAt(990);
        for (int i = 0; i < 9; i++) x.string(i, 1);
        yards("J>9", Due.say(x, "J>9"), 990, 991, 992, 993, 994, 995, 996, 997, 998, 999);
        MittenLine longer = allAt(990);
        longer.string(8, 5);
        yards("J>9, longer", Due.say(longer, "J>9"), 990, 990, 990, 990, 990, 990, 990, 990, 994, 999);
        MittenLine y = withStrings(10);
        Due.does(y, "B<9");
        yards("B<1", Due.say(y, "B<1"), 0, 0, 10, 20, 30, 40, 50, 60, 70, 80);
    }

    @Says("the next one on either side, were it too far off then, is DRAWN along")
    static void p09_behind_both_next_ones_are_DRAWN() {
        MittenLine x = new MittenLine();
        x.string(5, 30);
        x.child(5, 35, 0);
        x.string(4, 5);
        x.string(3, 10);
        Due.say(x, "E>1");
        yards("E>1", x, 0, 10, 20, 31, 41, 36, 60);
        same("judge(2)", x.judge(2), 2);
    }

    @Says("(on the side on which it is then)")
    static void p09_behind_one_passed_by_is_DRAWN_on_the_side_on_which_it_is_then() {
        MittenLine x = new MittenLine();
        x.child(0, 9, 0);
        x.string(0, 1);
        yards("A>9", Due.say(x, "A>9"), 18, 17, 20);
        MittenLine y = new MittenLine();
        y.child(9, 81, 0);
        y.string(8, 1);
        yards("J<9", Due.say(y, "J<9"), 0, 10, 20, 30, 40, 50, 60, 70, 73, 72);
    }

    @Says("were it too far off then")
    static void p09_behind_one_passed_by_is_not_DRAWN_if_it_is_near_enough_then() {
        MittenLine x = new MittenLine();
        x.child(0, 9, 0);
        x.string(0, 1);
        yards("A>2", Due.say(x, "A>2"), 11, 10, 20);
        x.wipe();
        yards("A>1", Due.say(x, "A>1"), 10, 10, 20);
        same("judge(2)", x.judge(2), 0);
    }

    @Says("and so on")
    static void p09_behind_the_whole_row_is_DRAWN() {
        yards("J>9", Due.say(withStrings(10), "J>9"), 9, 19, 29, 39, 49, 59, 69, 79, 89, 99);
        same("J>9 judge(2)", Due.say(withStrings(10), "J>9").judge(2), 9);
        MittenLine x = withStrings(10);
        Due.does(x, "J>9");
        yards("A<9", Due.say(x, "A<9"), 0, 10, 20, 30, 40, 50, 60, 70, 80, 90);
        same("A<9 judge(2)", x.judge(2), 9);
    }

    @Says("and so on")
    static void p09_behind_it_goes_on_no_further_than_to_the_first_who_is_near_enough() {
        MittenLine x = withStrings(10);
        x.string(1, 13);
        yards("E>3", Due.say(x, "E>3"), 0, 10, 23, 33, 43, 50);
        same("E>3 judge(2)", x.judge(2), 2);
        x.wipe();
        yards("E>4", Due.say(x, "E>4"), 1, 11, 24, 34, 44, 50);
        same("E>4 judge(2)", x.judge(2), 4);
    }

    @Says("(it goes so many YARDS on, or back; the next one on either side")
    static void p09_behind_the_first_and_the_last_one_draw_on_one_side_alone() {
        yards("A>9A>9A>9", Due.told("A>9A>9A>9"), 27, 12, 20, 30);
        yards("J<9J<9J<9", Due.told("J<9J<9J<9"), 0, 10, 20, 30, 40, 50, 60, 70, 78, 63);
    }

    @Says("# (it HOLDS fast, or no more)")
    static void p09_behind_HOLDS_or_no_more() {
        same("J#", Due.told("J#").behind(9, 2), 1);
        same("J##", Due.told("J#J#").behind(9, 2), 0);
        same("J###", Due.told("J#J#J#").behind(9, 2), 1);
        same("another one", Due.told("J#").behind(8, 2), 0);
        same("held before", Due.say(holding(1), "A#").behind(0, 2), 0);
    }

    // ---- squeezes

    @Says("by each other one by 3 less")
    static void p09_behind_a_squeeze_is_3_less_by_a_STRING_that_is_not_TAUT() {
        felts("E!9", Due.told("E!9"), 0, 0, 3, 6, 0, 6, 3, 0, 0, 0);
        felts("E!4", Due.told("E!4"), 0, 0, 0, 1, 0, 1, 0, 0, 0, 0);
        felts("a yard from taut", Due.say(withStrings(11), "E!9"), 0, 0, 3, 6, 0, 6, 3, 0, 0, 0);
    }

    @Says("by each STRING that is TAUT by 1 less")
    static void p09_behind_a_squeeze_is_1_less_by_a_STRING_that_is_TAUT() {
        felts("A!9", Due.say(withStrings(10), "A!9"), 0, 8, 7, 6, 5, 4, 3, 2, 1, 0);
        felts("J!9", Due.say(withStrings(10), "J!9"), 0, 1, 2, 3, 4, 5, 6, 7, 8, 0);
        felts("E!9, one is taut", Due.say(withString(4, 10), "E!9"), 0, 0, 3, 6, 0, 8, 5, 2, 0, 0);
        felts("E!9, one further on is taut", Due.say(withString(2, 10), "E!9"), 0, 2, 5, 6, 0, 6, 3, 0, 0, 0);
    }

    @Says("it is TAUT, if they are as many")
    static void p09_behind_a_squeeze_by_a_STRING_that_is_TAUT_the_next_one_being_back() {
        MittenLine x = new MittenLine();
        x.child(0, 25, 0);
        felts("A!9", Due.say(x, "A!9"), 0, 8, 5, 2, 0);
    }

    @Says("by each STRING that is TAUT by 1 less, by each other one by 3 less")
    static void p09_behind_a_squeeze_by_a_STRING_as_it_is_then() {
        felts("E>5E!9", Due.told("E>5E!9"), 0, 2, 5, 8, 0, 6, 3, 0);
        felts("E!9E>5", Due.told("E!9E>5"), 0, 0, 3, 6, 0, 6, 3, 0);
    }

    @Says("as long as anything is left")
    static void p09_behind_a_squeeze_of_which_nothing_is_left() {
        felts("E!3", Due.told("E!3"), 0, 0, 0, 0, 0, 0, 0, 0, 0, 0);
        felts("taut, E!1", Due.say(withStrings(10), "E!1"), 0, 0, 0, 0, 0, 0, 0, 0, 0, 0);
        felts("taut, E!2", Due.say(withStrings(10), "E!2"), 0, 0, 0, 1, 0, 1, 0, 0, 0, 0);
        felts("taut, E!3", Due.say(withStrings(10), "E!3"), 0, 0, 1, 2, 0, 2, 1, 0, 0, 0);
    }

    @Says("as long as anything is left")
    static void p09_behind_a_squeeze_less_than_a_STRING_takes_is_felt_by_none() {
        MittenLine x = new MittenLine();
        Due.does(x, "E!9E!9");
        felts("E!1", Due.say(x, "E!1"), 0, 0, 6, 12, 0, 12, 6, 0, 0, 0);
        felts("E!1E!2", Due.say(x, "E!2"), 0, 0, 6, 12, 0, 12, 6, 0, 0, 0);
    }

    @Says("along the string, both ways")
    static void p09_behind_a_squeeze_of_the_first_and_the_last_one() {
        felts("A!9", Due.told("A!9"), 0, 6, 3, 0, 0, 0, 0, 0, 0, 0);
        felts("J!9", Due.told("J!9"), 0, 0, 0, 0, 0, 0, 0, 3, 6, 0);
    }

    @Says("each to whom that comes has FELT so much more")
    static void p09_behind_squeezes_add_up() {
        felts("E!9D!8E!4", Due.told("E!9D!8E!4"), 0, 2, 8, 7, 5, 9, 3, 0, 0, 0);
    }

    @Says("99 at most")
    static void p09_behind_FELT_99_at_most() {
        MittenLine x = Due.told("A!9".repeat(16));
        same("16 times 6", x.behind(1, 1), 96);
        x.done();
        same("to 99", Due.say(x, "A!6").behind(1, 1), 99);
        same("1 more", Due.say(x, "A!4").behind(1, 1), 99);
        x.wipe();
        same("beyond 99", Due.say(x, "A!7").behind(1, 1), 99);
        same("far beyond 99", Due.say(x, "A!9A!9").behind(1, 1), 99);
        same("the other one, less", x.behind(2, 1), 48 + 1 + 3 + 3);
        x.done();
        toldFelt(x, 1, 99);
    }

    @Says("who squeezes has FELT nothing by it")
    static void p09_behind_who_squeezes_has_FELT_nothing_by_it() {
        same("E!9", Due.told("E!9").behind(4, 1), 0);
        MittenLine x = Due.told("D!9E!9");
        same("what it felt before", x.behind(4, 1), 6);
    }

    @Says("# (it HOLDS fast, or no more), ! and a digit 1 to 9 (a squeeze")
    static void p09_behind_a_squeeze_is_FELT_by_one_that_HOLDS_and_beyond() {
        felts("E!9", Due.say(holding(1023), "E!9"), 0, 0, 3, 6, 0, 6, 3, 0, 0, 0);
    }

    // ---- wool, days

    @Says("its STRING to the next one is let out a yard, of the BALL")
    static void p10_line_let_out_a_yard_of_the_BALL() {
        MittenLine x = Due.told("A+I+I+");
        same("line(1)", x.line(1), 17);
        same("line(2)", x.line(2), 138);
        x.done();
        toldString(x, 0, 16);
        toldString(x, 8, 17);
        toldString(x, 1, 15);
        toldYard(x, 1, 10);
    }

    @Says("is wound a yard, onto the BALL")
    static void p10_line_wound_a_yard_onto_the_BALL() {
        MittenLine x = Due.told("A-I-I-");
        same("line(1)", x.line(1), 23);
        same("line(2)", x.line(2), 132);
        x.done();
        toldString(x, 0, 14);
        toldString(x, 8, 13);
        toldString(x, 7, 15);
    }

    @Says("onto the BALL, 999 at most, else the yard is lost")
    static void p10_line_the_last_yard_that_the_BALL_takes() {
        MittenLine x = Due.say(withBall(998), "A-");
        same("line(1)", x.line(1), 999);
        same("line(2)", x.line(2), 134);
    }

    @Says("onto the BALL, 999 at most, else the yard is lost")
    static void p10_line_a_yard_wound_onto_a_full_BALL_is_lost() {
        MittenLine x = Due.say(withBall(999), "A-");
        same("line(1)", x.line(1), 999);
        same("line(2)", x.line(2), 134);
        Due.say(x, "B-A+");
        same("line(1) one let out", x.line(1), 998);
        same("line(2) one let out", x.line(2), 134);
    }

    @Says("or . (a day: all have FELT 0)")
    static void p09_behind_a_day_all_have_FELT_0() {
        MittenLine x = Due.told("E!9A!9J!9.");
        felts("a day", x, 0, 0, 0, 0, 0, 0, 0, 0, 0, 0);
        felts("a squeeze after it", Due.say(x, "A!4"), 0, 1, 0);
        same("line(3)", x.line(3), 1);
    }

    @Says("or . (a day: all have FELT 0)")
    static void p10_line_a_day_changes_nothing_else() {
        MittenLine x = busyWith(".");
        MittenLine twin = busyWith("");
        same("done()", x.done(), 1);
        same("told(3)", x.told(3), twin.told(3) + 1);
        for (int what = 0; what < 39; what++) {
            if (what != 3 && (what < 20 || what > 29)) same("told(" + what + ")", x.told(what), twin.told(what));
        }
        for (int i = 0; i < 10; i++) toldFelt(x, i, 0);
    }
}
