/** The cases of the calls of promises 8 to 12: judge, behind, line, drawn, done. */
final class DaysEdges extends Cases {
    private DaysEdges() { }

    // ---- 8 judge

    @Says("OUTSIDE -2 (another number is not as told)")
    static void p08_judge_OUTSIDE_what_below_0() {
        refuses(x -> x.judge(-1), OUTSIDE);
        refuses(x -> x.judge(LEAST), OUTSIDE);
    }

    @Says("OUTSIDE -2 (another number is not as told)")
    static void p08_judge_OUTSIDE_what_3() {
        refuses(x -> x.judge(3), OUTSIDE);
        refuses(x -> x.judge(MOST), OUTSIDE);
    }

    @Says("NO: there is a FAULT")
    static void p08_judge_NO_a_FAULT() {
        for (int what = 0; what <= 2; what++) {
            int asked = what;
            refuses(Cases::busyWithFault, x -> x.judge(asked), NO);
            refuses(() -> busyWith("A#K"), x -> x.judge(asked), NO);
        }
    }

    @Says("STATE (2): some ACT can not be")
    static void p08_judge_STATE_of_2_some_ACT_can_not_be() {
        refuses(Cases::busyWithWhatCanNotBe, x -> x.judge(2), STATE);
    }

    @Says("STATE (2): some ACT can not be")
    static void p08_judge_0_and_1_are_told_though_some_ACT_can_not_be() {
        answersAndChangesNothing(Cases::busyWithWhatCanNotBe, x -> x.judge(0), 1);
        answersAndChangesNothing(Cases::busyWithWhatCanNotBe, x -> x.judge(1), 2);
    }

    @Says("OUTSIDE; NO: there is a FAULT; STATE (2): some ACT can not be")
    static void p08_judge_OUTSIDE_ahead_of_NO_and_STATE() {
        refuses(Cases::busyWithFault, x -> x.judge(3), OUTSIDE);
        refuses(Cases::busyWithFault, x -> x.judge(-1), OUTSIDE);
        refuses(Cases::busyWithWhatCanNotBe, x -> x.judge(3), OUTSIDE);
    }

    @Says("OUTSIDE; NO: there is a FAULT; STATE (2): some ACT can not be")
    static void p08_judge_NO_ahead_of_STATE() {
        for (int what = 0; what <= 2; what++) {
            int asked = what;
            refuses(Cases::busyWithFaultAndWhatCanNotBe, x -> x.judge(asked), NO);
        }
    }

    @Says("JUDGED: the ACT (what = 0), why (1), how many (2); NONE")
    static void p08_judge_NONE_if_all_ACTS_can_be() {
        answersAndChangesNothing(Cases::busy, x -> x.judge(0), NONE);
        answersAndChangesNothing(Cases::busy, x -> x.judge(1), NONE);
        answersAndChangesNothing(Cases::busy, x -> x.judge(2), 0);
    }

    @Says("an empty PAD has no FAULT: no ACTS")
    static void p08_judge_NONE_of_an_empty_PAD() {
        MittenLine x = new MittenLine();
        same("judge(0)", x.judge(0), NONE);
        same("judge(1)", x.judge(1), NONE);
        same("judge(2)", x.judge(2), 0);
    }

    @Says("the first ACT (from 0 on) that can not be, why")
    static void p08_judge_the_first_ACT_is_0() {
        canNotBe(new MittenLine(), "A<1B#.", 0, 1);
    }

    @Says("the first ACT (from 0 on) that can not be, why")
    static void p08_judge_the_first_of_several_that_can_not_be() {
        canNotBe(new MittenLine(), "B>1.J+A<1", 2, 3);
        canNotBe(new MittenLine(), "B>1.A<1J+", 2, 1);
    }

    @Says("the first ACT (from 0 on) that can not be, why")
    static void p08_judge_the_last_ACT_of_a_full_PAD() {
        canNotBe(new MittenLine(), ".".repeat(58) + "J-", 58, 3);
        canNotBe(new MittenLine(), "A!9".repeat(19) + "A<1", 19, 1);
        canNotBe(atDay(40), ".".repeat(60), 59, 6);
    }

    @Says("the first ACT (from 0 on) that can not be, why")
    static void p08_judge_an_ACT_is_judged_as_things_are_then() {
        canBe(new MittenLine(), "A>9A<9");
        canNotBe(new MittenLine(), "A>8A<9", 1, 1);
        canBe(withBall(0), "A-A+");
        canNotBe(withBall(0), "A-A+A+", 2, 4);
    }

    @Says("how many were DRAWN in the text (each in each ACT once)")
    static void p08_judge_2_none_is_DRAWN() {
        same("E>5E<9E!9", Due.told("E>5E<9E!9").judge(2), 0);
        same("A#.", Due.told("A#.").judge(2), 0);
    }

    @Says("how many were DRAWN in the text (each in each ACT once)")
    static void p08_judge_2_each_in_each_ACT_once() {
        same("one, twice", Due.told("J>9J>1").judge(2), 2);
        same("in two acts", Due.told("E>6E>1").judge(2), 2);
        same("one, then the next one too", Due.told("J>9J>2").judge(2), 3);
        same("on, not back, back", Due.told("E>9E<9E<9").judge(2), 2);
    }

    @Says("how many were DRAWN in the text (each in each ACT once)")
    static void p08_judge_2_all_the_others_in_all_ACTS() {
        same("9 in each of 20", Due.say(withStrings(10), "J>9".repeat(20)).judge(2), 180);
    }

    // ---- 9 behind

    @Says("UNKNOWN -1 (there is no such CHILD, STRING)")
    static void p09_behind_UNKNOWN_child_below_0() {
        refuses(x -> x.behind(-1, 0), UNKNOWN);
        refuses(x -> x.behind(LEAST, 0), UNKNOWN);
    }

    @Says("UNKNOWN -1 (there is no such CHILD, STRING)")
    static void p09_behind_UNKNOWN_child_10() {
        refuses(x -> x.behind(10, 0), UNKNOWN);
        refuses(x -> x.behind(MOST, 2), UNKNOWN);
    }

    @Says("its YARD (what = 0), FELT (1), HOLDS (2)")
    static void p09_behind_OUTSIDE_what_below_0() {
        refuses(x -> x.behind(0, -1), OUTSIDE);
        refuses(x -> x.behind(9, LEAST), OUTSIDE);
    }

    @Says("its YARD (what = 0), FELT (1), HOLDS (2)")
    static void p09_behind_OUTSIDE_what_3() {
        refuses(x -> x.behind(0, 3), OUTSIDE);
        refuses(x -> x.behind(9, MOST), OUTSIDE);
    }

    @Says("NO, STATE, as of judge(2)")
    static void p09_behind_NO_a_FAULT() {
        for (int what = 0; what <= 2; what++) {
            int asked = what;
            refuses(Cases::busyWithFault, x -> x.behind(0, asked), NO);
        }
    }

    @Says("NO, STATE, as of judge(2)")
    static void p09_behind_STATE_some_ACT_can_not_be() {
        for (int what = 0; what <= 2; what++) {
            int asked = what;
            refuses(Cases::busyWithWhatCanNotBe, x -> x.behind(1, asked), STATE);
        }
    }

    @Says("the first of these that fits")
    static void p09_behind_UNKNOWN_ahead_of_OUTSIDE_NO_and_STATE() {
        refuses(x -> x.behind(10, 3), UNKNOWN);
        refuses(Cases::busyWithFault, x -> x.behind(-1, 0), UNKNOWN);
        refuses(Cases::busyWithWhatCanNotBe, x -> x.behind(10, 0), UNKNOWN);
    }

    @Says("the first of these that fits")
    static void p09_behind_OUTSIDE_ahead_of_NO_and_STATE() {
        refuses(Cases::busyWithFault, x -> x.behind(0, 3), OUTSIDE);
        refuses(Cases::busyWithWhatCanNotBe, x -> x.behind(0, -1), OUTSIDE);
    }

    @Says("the first of these that fits")
    static void p09_behind_NO_ahead_of_STATE() {
        refuses(Cases::busyWithFaultAndWhatCanNotBe, x -> x.behind(0, 0), NO);
    }

    @Says("BEHIND: of a CHILD its YARD, FELT, whether it HOLDS fast (1, 0)")
    static void p09_behind_an_empty_PAD_is_as_things_are_now() {
        MittenLine x = busyWith("");
        for (int i = 0; i < 10; i++) {
            same("behind(" + i + ", 0)", x.behind(i, 0), x.told(10 + i));
            same("behind(" + i + ", 1)", x.behind(i, 1), x.told(20 + i));
            same("behind(" + i + ", 2)", x.behind(i, 2), x.told(1) >> i & 1);
        }
    }

    @Says("BEHIND: of a CHILD its YARD, FELT, whether it HOLDS fast (1, 0)")
    static void p09_behind_the_first_and_the_last_one() {
        MittenLine x = Due.told("A>4A#J>5B!4I!5");
        same("behind(0, 0)", x.behind(0, 0), 4);
        same("behind(0, 1)", x.behind(0, 1), 1);
        same("behind(0, 2)", x.behind(0, 2), 1);
        same("behind(9, 0)", x.behind(9, 0), 95);
        same("behind(9, 1), taut", x.behind(9, 1), 4);
        same("behind(9, 2)", x.behind(9, 2), 0);
    }

    @Says("BEHIND: of a CHILD its YARD, FELT, whether it HOLDS fast (1, 0)")
    static void p09_behind_changes_nothing() {
        answersAndChangesNothing(Cases::busy, x -> x.behind(2, 0), 22);
        answersAndChangesNothing(Cases::busy, x -> x.behind(3, 2), 1);
    }

    @Says("BEHIND: of a CHILD its YARD, FELT, whether it HOLDS fast (1, 0)")
    static void p09_behind_the_last_ACT_of_a_full_PAD() {
        same("20 steps", Due.say(withStrings(99), "A>1".repeat(20)).behind(0, 0), 20);
        same("the 30th turn", Due.told("A#".repeat(30)).behind(0, 2), 0);
        same("the 29th turn", Due.told("A#".repeat(29)).behind(0, 2), 1);
    }

    // ---- 10 line

    @Says("LINE: TAUT ones (what = 0), the BALL (1), yards (2), the day (3). OUTSIDE")
    static void p10_line_OUTSIDE_what_below_0() {
        refuses(x -> x.line(-1), OUTSIDE);
        refuses(x -> x.line(LEAST), OUTSIDE);
    }

    @Says("LINE: TAUT ones (what = 0), the BALL (1), yards (2), the day (3). OUTSIDE")
    static void p10_line_OUTSIDE_what_4() {
        refuses(x -> x.line(4), OUTSIDE);
        refuses(x -> x.line(MOST), OUTSIDE);
    }

    @Says("OUTSIDE; NO, STATE, likewise")
    static void p10_line_NO_a_FAULT() {
        for (int what = 0; what <= 3; what++) {
            int asked = what;
            refuses(Cases::busyWithFault, x -> x.line(asked), NO);
        }
    }

    @Says("OUTSIDE; NO, STATE, likewise")
    static void p10_line_STATE_some_ACT_can_not_be() {
        for (int what = 0; what <= 3; what++) {
            int asked = what;
            refuses(Cases::busyWithWhatCanNotBe, x -> x.line(asked), STATE);
        }
    }

    @Says("the first of these that fits")
    static void p10_line_OUTSIDE_ahead_of_NO_and_STATE() {
        refuses(Cases::busyWithFault, x -> x.line(4), OUTSIDE);
        refuses(Cases::busyWithWhatCanNotBe, x -> x.line(-1), OUTSIDE);
    }

    @Says("the first of these that fits")
    static void p10_line_NO_ahead_of_STATE() {
        refuses(Cases::busyWithFaultAndWhatCanNotBe, x -> x.line(0), NO);
    }

    @Says("STRINGS that are TAUT (bits)")
    static void p10_line_0_no_STRING_is_TAUT_and_all_are() {
        same("none", new MittenLine().line(0), 0);
        same("a yard from it", withStrings(11).line(0), 0);
        same("all", withStrings(10).line(0), 511);
    }

    @Says("it is TAUT, if they are as many")
    static void p10_line_0_TAUT_the_next_one_being_back() {
        MittenLine x = new MittenLine();
        x.child(0, 25, 0);
        same("A ahead of B", x.line(0), 1);
        x.child(0, 24, 0);
        same("a yard less", x.line(0), 0);
    }

    @Says("Sets are bits")
    static void p10_line_0_bits_by_the_STRINGS_numbers() {
        for (int i = 0; i < 9; i++) same("string " + i, withString(i, 10).line(0), 1 << i);
    }

    @Says("LINE: STRINGS that are TAUT (bits), the BALL, yards of all STRINGS, the day")
    static void p10_line_2_all_yards_the_least_and_the_most() {
        same("all of 99", withStrings(99).line(2), 891);
        MittenLine x = allAt(500);
        for (int i = 0; i < 9; i++) x.string(i, 1);
        same("all of 1", x.line(2), 9);
    }

    @Says("LINE: STRINGS that are TAUT (bits), the BALL, yards of all STRINGS, the day")
    static void p10_line_1_and_3_the_least_and_the_most() {
        same("an empty ball", withBall(0).line(1), 0);
        same("a full ball", withBall(999).line(1), 999);
        same("day 0", new MittenLine().line(3), 0);
        same("day 99", atDay(99).line(3), 99);
    }

    @Says("LINE: STRINGS that are TAUT (bits), the BALL, yards of all STRINGS, the day")
    static void p10_line_an_empty_PAD_is_as_things_are_now() {
        MittenLine x = busyWith("");
        int sum = 0;
        for (int i = 0; i < 9; i++) sum += x.told(30 + i);
        same("line(1)", x.line(1), 77);
        same("line(2)", x.line(2), sum);
        same("line(3)", x.line(3), 4);
    }

    @Says("LINE: STRINGS that are TAUT (bits), the BALL, yards of all STRINGS, the day")
    static void p10_line_changes_nothing() {
        answersAndChangesNothing(() -> busyWith("A+."), x -> x.line(1), 76);
        answersAndChangesNothing(() -> busyWith("A+."), x -> x.line(3), 5);
    }

    // ---- 11 drawn

    @Says("DRAWN: the ACT (what = 0), which (1); NONE. OUTSIDE")
    static void p11_drawn_OUTSIDE_what_below_0() {
        refuses(x -> x.drawn(-1), OUTSIDE);
        refuses(x -> x.drawn(LEAST), OUTSIDE);
    }

    @Says("DRAWN: the ACT (what = 0), which (1); NONE. OUTSIDE")
    static void p11_drawn_OUTSIDE_what_2() {
        refuses(x -> x.drawn(2), OUTSIDE);
        refuses(x -> x.drawn(MOST), OUTSIDE);
    }

    @Says("OUTSIDE; NO, STATE, likewise")
    static void p11_drawn_NO_a_FAULT() {
        refuses(Cases::busyWithFault, x -> x.drawn(0), NO);
        refuses(Cases::busyWithFault, x -> x.drawn(1), NO);
        refuses(() -> busyWith("E>9A"), x -> x.drawn(0), NO);
    }

    @Says("OUTSIDE; NO, STATE, likewise")
    static void p11_drawn_STATE_some_ACT_can_not_be() {
        refuses(Cases::busyWithWhatCanNotBe, x -> x.drawn(0), STATE);
        refuses(Cases::busyWithWhatCanNotBe, x -> x.drawn(1), STATE);
        same("drawn before it", Due.told("E>9A<1").drawn(0), STATE);
        same("which, before it", Due.told("E>9A<1").drawn(1), STATE);
    }

    @Says("the first of these that fits")
    static void p11_drawn_OUTSIDE_ahead_of_NO_and_STATE() {
        refuses(Cases::busyWithFault, x -> x.drawn(2), OUTSIDE);
        refuses(Cases::busyWithWhatCanNotBe, x -> x.drawn(-1), OUTSIDE);
    }

    @Says("the first of these that fits")
    static void p11_drawn_NO_ahead_of_STATE() {
        refuses(Cases::busyWithFaultAndWhatCanNotBe, x -> x.drawn(0), NO);
    }

    @Says("DRAWN: the first ACT by which one was; which, the least; NONE")
    static void p11_drawn_NONE_is_DRAWN() {
        answersAndChangesNothing(Cases::busy, x -> x.drawn(0), NONE);
        answersAndChangesNothing(Cases::busy, x -> x.drawn(1), NONE);
        same("taut, drawn(0)", Due.told("E>5").drawn(0), NONE);
        same("taut, drawn(1)", Due.told("E>5").drawn(1), NONE);
    }

    @Says("an empty PAD has no FAULT: no ACTS")
    static void p11_drawn_NONE_of_an_empty_PAD() {
        same("drawn(0)", new MittenLine().drawn(0), NONE);
        same("drawn(1)", new MittenLine().drawn(1), NONE);
    }

    @Says("DRAWN: the first ACT by which one was")
    static void p11_drawn_the_first_ACT_from_0_on() {
        same("at 0", Due.told("E>6E>9").drawn(0), 0);
        same("at 2", Due.told(".A#E>6E>9").drawn(0), 2);
        same("the last of a full pad", Due.told("E!1".repeat(19) + "E>9").drawn(0), 19);
        same("all but one do nothing to others", Due.told(".".repeat(57) + "E>9").drawn(0), 57);
    }

    @Says("which, the least")
    static void p11_drawn_which_the_least_of_the_first_ACT() {
        same("one", Due.told("J>6").drawn(1), 8);
        same("the first one", Due.told("B>6").drawn(1), 0);
        same("the last one", Due.told("I<6").drawn(1), 9);
        same("several before it", Due.say(withStrings(10), "J>1").drawn(1), 0);
        same("several behind it", Due.say(withStrings(10), "E<1").drawn(1), 5);
        same("a lesser one later on", Due.told("J>6B>6").drawn(1), 8);
    }

    @Says("which, the least")
    static void p11_drawn_which_the_least_of_both_sides() {
        MittenLine x = new MittenLine();
        x.string(5, 30);
        x.child(5, 35, 0);
        x.string(4, 5);
        x.string(3, 10);
        same("D and F", Due.say(x, "E>1").drawn(1), 3);
    }

    // ---- 12 done

    @Says("DAYS are DONE (the PAD is empty then): ACTS. NO, STATE, likewise")
    static void p12_done_NO_a_FAULT() {
        refuses(Cases::busyWithFault, MittenLine::done, NO);
        refuses(() -> busyWith("B>3.K"), MittenLine::done, NO);
    }

    @Says("DAYS are DONE (the PAD is empty then): ACTS. NO, STATE, likewise")
    static void p12_done_STATE_some_ACT_can_not_be() {
        refuses(Cases::busyWithWhatCanNotBe, MittenLine::done, STATE);
        refuses(() -> busyWith("B>3C!9A+.J+"), MittenLine::done, STATE);
    }

    @Says("the first of these that fits")
    static void p12_done_NO_ahead_of_STATE() {
        refuses(Cases::busyWithFaultAndWhatCanNotBe, MittenLine::done, NO);
    }

    @Says("an empty PAD has no FAULT: no ACTS")
    static void p12_done_an_empty_PAD() {
        answersAndChangesNothing(() -> busyWith(""), MittenLine::done, 0);
    }

    @Says("DAYS are DONE (the PAD is empty then): ACTS")
    static void p12_done_a_full_PAD() {
        MittenLine x = Due.told("A>1B!9.C#D+E-".repeat(4) + "F>1G!1H#");
        same("told(0)", x.told(0), 60);
        same("done()", x.done(), 27);
        same("told(0) then", x.told(0), 0);
        same("fault() then", x.fault(), NONE);
        same("told(3)", x.told(3), 4);
        toldYard(x, 0, 4);
        toldYard(x, 5, 51);
        toldString(x, 3, 19);
        toldString(x, 4, 11);
        same("told(1)", x.told(1), 1 << 7);
        same("told(2)", x.told(2), 20);
    }

    @Says("DAYS are DONE (the PAD is empty then): ACTS")
    static void p12_done_tells_ACTS_not_signs() {
        same("one", Due.told("A>4").done(), 1);
        same("six", Due.told("A#B>4C!9D+.E!4").done(), 6);
    }

    @Says("DONE: it is so then")
    static void p12_done_it_is_as_behind_and_line_told() {
        MittenLine told = busyWith("C>9C>9D#.E+G-A!9E!8");
        MittenLine done = busyWith("C>9C>9D#.E+G-A!9E!8");
        same("done()", done.done(), 8);
        for (int i = 0; i < 10; i++) {
            toldYard(done, i, told.behind(i, 0));
            toldFelt(done, i, told.behind(i, 1));
            same("holds " + i, done.told(1) >> i & 1, told.behind(i, 2));
        }
        same("the ball", done.told(2), told.line(1));
        same("the day", done.told(3), told.line(3));
        same("taut ones", done.line(0), told.line(0));
        same("all yards", done.line(2), told.line(2));
    }

    @Says("DAYS are DONE (the PAD is empty then): ACTS")
    static void p12_done_once_alone() {
        MittenLine x = Due.told("A>4.");
        same("done()", x.done(), 2);
        same("done() again", x.done(), 0);
        toldYard(x, 0, 4);
        same("told(3)", x.told(3), 1);
    }

    @Says("DAYS are DONE (the PAD is empty then): ACTS")
    static void p12_done_SIGHTS_and_IMAGES_stay() {
        MittenLine x = busy();
        MittenLine twin = busyWith("");
        x.done();
        same("told(4)", x.told(4), 2);
        same("fits(0)", x.fits(0), twin.fits(0));
        x.restore(0);
        twin.restore(0);
        for (int what = 0; what < 39; what++) same("told(" + what + ")", x.told(what), twin.told(what));
    }
}
