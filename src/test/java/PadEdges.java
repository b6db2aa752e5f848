/** The cases of promises 5 to 7: say, wipe, fault. */
final class PadEdges extends Cases {
    private PadEdges() { }

    private static MittenLine filledWith(String sign) {
        return Due.told(sign.repeat(60));
    }

    private static void fault(String text, int due) {
        same("fault() of " + text, Due.told(text).fault(), due);
    }

    // ---- 5 say

    @Says("a PAD of up to 60 signs (codes 33 to 126)")
    static void p05_say_OUTSIDE_sign_32() {
        refuses(x -> x.say(32), OUTSIDE);
    }

    @Says("a PAD of up to 60 signs (codes 33 to 126)")
    static void p05_say_OUTSIDE_sign_127() {
        refuses(x -> x.say(127), OUTSIDE);
    }

    @Says("a PAD of up to 60 signs (codes 33 to 126)")
    static void p05_say_OUTSIDE_sign_far_out() {
        refuses(x -> x.say(0), OUTSIDE);
        refuses(x -> x.say(-46), OUTSIDE);
        refuses(x -> x.say(65536 + '.'), OUTSIDE);
        refuses(x -> x.say(LEAST), OUTSIDE);
        refuses(x -> x.say(MOST), OUTSIDE);
    }

    @Says("a PAD of up to 60 signs (codes 33 to 126)")
    static void p05_say_sign_33_can_be() {
        MittenLine x = new MittenLine();
        same("say(33)", x.say(33), 1);
        same("told(0)", x.told(0), 1);
    }

    @Says("a PAD of up to 60 signs (codes 33 to 126)")
    static void p05_say_sign_126_can_be() {
        MittenLine x = new MittenLine();
        same("say(126)", x.say(126), 1);
        same("told(0)", x.told(0), 1);
    }

    @Says("a PAD of up to 60 signs (codes 33 to 126)")
    static void p05_say_the_60th_sign_can_be() {
        MittenLine x = new MittenLine();
        for (int i = 1; i <= 60; i++) same("sign " + i, x.say('.'), i);
        same("told(0)", x.told(0), 60);
        same("done()", x.done(), 60);
        same("told(3)", x.told(3), 60);
    }

    @Says("A sign more: how many. OUTSIDE; FULL")
    static void p05_say_FULL_the_61st_sign() {
        refuses(Cases::busyWithFullPad, x -> x.say('.'), FULL);
        refuses(() -> filledWith("."), x -> x.say('K'), FULL);
    }

    @Says("A sign more: how many. OUTSIDE; FULL")
    static void p05_say_FULL_a_PAD_with_a_FAULT_too() {
        refuses(() -> filledWith("K"), x -> x.say('.'), FULL);
        refuses(() -> Due.told(".".repeat(59) + "A"), x -> x.say('#'), FULL);
    }

    @Says("the first of these that fits")
    static void p05_say_OUTSIDE_ahead_of_FULL() {
        refuses(Cases::busyWithFullPad, x -> x.say(127), OUTSIDE);
        refuses(Cases::busyWithFullPad, x -> x.say(32), OUTSIDE);
    }

    @Says("a sign that is said changes what fault() tells")
    static void p05_say_a_sign_that_can_not_stand_there_is_taken() {
        MittenLine x = Due.told("A#");
        same("say('K')", x.say('K'), 3);
        same("fault()", x.fault(), 2);
        same("say('.')", x.say('.'), 4);
        same("fault() still", x.fault(), 2);
    }

    @Says("A sign more: how many")
    static void p05_say_tells_how_many_and_changes_nothing_else() {
        MittenLine x = busy();
        MittenLine twin = busy();
        same("say('.')", x.say('.'), 9);
        for (int what = 1; what < 39; what++) same("told(" + what + ")", x.told(what), twin.told(what));
    }

    @Says("A sign more: how many")
    static void p05_say_after_a_FULL_PAD_was_wiped_or_done() {
        MittenLine x = filledWith(".");
        x.wipe();
        same("say('A') after wipe()", x.say('A'), 1);
        MittenLine y = filledWith(".");
        y.done();
        same("say('A') after done()", y.say('A'), 1);
    }

    // ---- 6 wipe

    @Says("Signs go: how many there were")
    static void p06_wipe_an_empty_PAD() {
        answersAndChangesNothing(() -> busyWith(""), MittenLine::wipe, 0);
    }

    @Says("Signs go: how many there were")
    static void p06_wipe_a_full_PAD() {
        MittenLine x = filledWith("K");
        same("wipe()", x.wipe(), 60);
        same("told(0)", x.told(0), 0);
        same("fault()", x.fault(), NONE);
        same("wipe() again", x.wipe(), 0);
    }

    @Says("Signs go: how many there were")
    static void p06_wipe_no_sign_is_left() {
        MittenLine x = Due.told("A>");
        same("wipe()", x.wipe(), 2);
        Due.say(x, "9");
        same("fault()", x.fault(), 0);
        x.wipe();
        Due.say(x, "A#");
        same("done()", x.done(), 1);
        toldYard(x, 0, 0);
    }

    @Says("Signs go: how many there were")
    static void p06_wipe_changes_nothing_else() {
        MittenLine x = busy();
        same("wipe()", x.wipe(), 8);
        sameFromNowOn(x, busyWith(""));
    }

    // ---- 7 fault

    @Says("an empty PAD has no FAULT: no ACTS")
    static void p07_fault_NONE_of_an_empty_PAD() {
        fault("", NONE);
        MittenLine x = Due.told("K");
        x.wipe();
        same("fault() after wipe()", x.fault(), NONE);
        MittenLine y = Due.told(".");
        y.done();
        same("fault() after done()", y.fault(), NONE);
    }

    @Says("THE FAULT; NONE")
    static void p07_fault_NONE_of_each_ACT() {
        for (char letter = 'A'; letter <= 'J'; letter++) {
            for (char digit = '1'; digit <= '9'; digit++) {
                fault(letter + ">" + digit, NONE);
                fault(letter + "<" + digit, NONE);
                fault(letter + "!" + digit, NONE);
            }
            fault(letter + "#", NONE);
            fault(letter + "+", NONE);
            fault(letter + "-", NONE);
        }
        fault(".", NONE);
    }

    @Says("THE FAULT; NONE")
    static void p07_fault_NONE_of_a_full_PAD() {
        same("days", filledWith(".").fault(), NONE);
        same("steps", Due.told("A>1".repeat(20)).fault(), NONE);
    }

    @Says("THE FAULT; NONE")
    static void p07_fault_NONE_though_an_ACT_can_not_be() {
        fault("A<1", NONE);
        fault("J+", NONE);
        fault("J-", NONE);
    }

    @Says("the place (from 0 on) of the first sign that can not stand there")
    static void p07_fault_place_0_for_the_first_sign() {
        for (int sign = 33; sign <= 126; sign++) {
            if (sign == '.' || sign >= 'A' && sign <= 'J') continue;
            fault(String.valueOf((char) sign), 0);
            fault((char) sign + "A#", 0);
        }
    }

    @Says("a CHILD's letter and:")
    static void p07_fault_letters_from_A_to_J() {
        fault("@#", 0);
        fault("K#", 0);
        fault("a#", 0);
        fault("j#", 0);
        fault("A#J#K#", 4);
    }

    @Says("> or < and a digit 1 to 9")
    static void p07_fault_a_digit_0_or_beyond_9_of_a_step() {
        fault("B>0", 2);
        fault("B<0", 2);
        fault("B>:", 2);
        fault("B<:", 2);
        fault("B>/", 2);
    }

    @Says("! and a digit 1 to 9")
    static void p07_fault_a_digit_0_or_beyond_9_of_a_squeeze() {
        fault("B!0", 2);
        fault("B!:", 2);
        fault("B!A", 2);
    }

    @Says("the first sign that can not stand there")
    static void p07_fault_a_sign_that_is_no_digit_where_one_must_come() {
        for (int sign = 33; sign <= 126; sign++) {
            if (sign >= '1' && sign <= '9') continue;
            for (String deed : new String[] {">", "<", "!"}) {
                fault("C" + deed + (char) sign, 2);
                fault("C" + deed + (char) sign + "1", 2);
            }
        }
    }

    @Says("the first sign that can not stand there")
    static void p07_fault_a_sign_that_is_no_deed_after_a_letter() {
        for (int sign = 33; sign <= 126; sign++) {
            if ("><!#+-".indexOf(sign) < 0) fault("J" + (char) sign, 1);
        }
    }

    @Says("the first sign that can not stand there")
    static void p07_fault_a_digit_after_a_deed_that_asks_for_none() {
        fault("A#1", 2);
        fault("A+1", 2);
        fault("A-1", 2);
        fault(".1", 1);
        fault("A>11", 3);
        fault("A!99", 3);
    }

    @Says("the first sign that can not stand there")
    static void p07_fault_a_deed_without_a_letter() {
        fault("A>1>2", 3);
        fault(".#", 1);
        fault("A##", 2);
    }

    @Says("the place (from 0 on) of the first sign that can not stand there")
    static void p07_fault_the_first_of_several() {
        fault("A>AK0", 2);
        fault("..KK", 2);
        fault("K", 0);
        fault("KA>", 0);
    }

    @Says("or the number of signs, if more must come")
    static void p07_fault_number_of_signs_after_a_letter() {
        fault("A", 1);
        fault("J", 1);
        fault("A>9..J", 6);
    }

    @Says("or the number of signs, if more must come")
    static void p07_fault_number_of_signs_after_a_deed_that_asks_for_a_digit() {
        fault("A>", 2);
        fault("A<", 2);
        fault("A!", 2);
        fault("B#A!", 4);
    }

    @Says("or the number of signs, if more must come")
    static void p07_fault_60_if_more_must_come_on_a_full_PAD() {
        same("a letter", Due.told(".".repeat(59) + "A").fault(), 60);
        same("a step", Due.told(".".repeat(58) + "A>").fault(), 60);
    }

    @Says("the place (from 0 on) of the first sign that can not stand there")
    static void p07_fault_59_for_the_last_sign_of_a_full_PAD() {
        same("the last sign", Due.told(".".repeat(59) + "1").fault(), 59);
        same("the last digit", Due.told(".".repeat(57) + "A>0").fault(), 59);
    }

    @Says("a sign that is said changes what fault() tells")
    static void p07_fault_goes_with_the_sign_that_was_wanting() {
        MittenLine x = Due.told("A");
        same("A", x.fault(), 1);
        x.say('>');
        same("A>", x.fault(), 2);
        x.say('5');
        same("A>5", x.fault(), NONE);
        x.say('5');
        same("A>55", x.fault(), 3);
    }

    @Says("THE FAULT; NONE")
    static void p07_fault_changes_nothing() {
        answersAndChangesNothing(Cases::busy, MittenLine::fault, NONE);
        answersAndChangesNothing(Cases::busyWithFault, MittenLine::fault, 4);
        answersAndChangesNothing(() -> busyWith("A#K"), MittenLine::fault, 2);
    }
}
