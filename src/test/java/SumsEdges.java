/** The cases of promises 13 to 15 and 20 to 22: reach, wind, read, pull, passed, year. */
final class SumsEdges extends Cases {
    private SumsEdges() { }

    private static void reaches(MittenLine x, int child, int on, int back) {
        same("reach(" + child + ", 0)", x.reach(child, 0), on);
        same("reach(" + child + ", 1)", x.reach(child, 1), back);
    }

    private static void winds(int row, int n, int least, int most) {
        MittenLine x = new MittenLine();
        same("wind(" + row + ", " + n + ", 0)", x.wind(row, n, 0), least);
        same("wind(" + row + ", " + n + ", 1)", x.wind(row, n, 1), most);
    }

    private static void reads(int a, int b, int c, int d, int row, int ways, int few) {
        MittenLine x = new MittenLine();
        String call = "read(" + a + ", " + b + ", " + c + ", " + d + ", " + row;
        same(call + ", 0)", x.read(a, b, c, d, row, 0), ways);
        same(call + ", 1)", x.read(a, b, c, d, row, 1), few);
    }

    private static void pulls(int n, int k, int just, int wins, int first) {
        MittenLine x = new MittenLine();
        String call = "pull(" + n + ", " + k + ", " + just;
        same(call + ", 0)", x.pull(n, k, just, 0), wins);
        same(call + ", 1)", x.pull(n, k, just, 1), first);
    }

    private static void isPassed(int n, int t, int what, long upper, long lower) {
        MittenLine x = new MittenLine();
        String call = "passed(" + n + ", " + t + ", " + what;
        same(call + ", 0)", x.passed(n, t, what, 0), upper);
        same(call + ", 1)", x.passed(n, t, what, 1), lower);
    }

    private static void years(MittenLine x, int seed, int m, int yard, int drawn, int ball) {
        String call = "year(" + seed + ", " + m;
        same(call + ", 0)", x.year(seed, m, 0), yard);
        same(call + ", 1)", x.year(seed, m, 1), drawn);
        same(call + ", 2)", x.year(seed, m, 2), ball);
    }

    // ---- 13 reach

    @Says("UNKNOWN -1 (there is no such CHILD, STRING)")
    static void p13_reach_UNKNOWN_child_below_0() {
        refuses(x -> x.reach(-1, 0), UNKNOWN);
        refuses(x -> x.reach(LEAST, 1), UNKNOWN);
    }

    @Says("UNKNOWN -1 (there is no such CHILD, STRING)")
    static void p13_reach_UNKNOWN_child_10() {
        refuses(x -> x.reach(10, 0), UNKNOWN);
        refuses(x -> x.reach(MOST, 1), UNKNOWN);
    }

    @Says("REACH: on (what = 0), back (1). UNKNOWN; OUTSIDE")
    static void p13_reach_OUTSIDE_what_below_0() {
        refuses(x -> x.reach(4, -1), OUTSIDE);
        refuses(x -> x.reach(4, LEAST), OUTSIDE);
    }

    @Says("REACH: on (what = 0), back (1). UNKNOWN; OUTSIDE")
    static void p13_reach_OUTSIDE_what_2() {
        refuses(x -> x.reach(4, 2), OUTSIDE);
        refuses(x -> x.reach(3, MOST), OUTSIDE);
    }

    @Says("the first of these that fits")
    static void p13_reach_UNKNOWN_ahead_of_OUTSIDE() {
        refuses(x -> x.reach(10, 2), UNKNOWN);
        refuses(x -> x.reach(-1, -1), UNKNOWN);
    }

    @Says("(0: it HOLDS)")
    static void p13_reach_0_it_HOLDS() {
        for (int i = 0; i < 10; i++) reaches(holding(1 << i), i, 0, 0);
    }

    @Says("the most YARDS that a CHILD can go on (or back) at once (beyond 9, too), the others being DRAWN")
    static void p13_reach_as_far_as_to_yards_999_and_0() {
        for (int i = 0; i < 10; i++) reaches(new MittenLine(), i, 999 - 10 * i, 10 * i);
        reaches(allAt(990), 4, 9, 990);
    }

    @Says("Each CHILD is at a YARD 0 to 999")
    static void p13_reach_0_at_yards_0_and_999() {
        same("back from 0", new MittenLine().reach(0, 1), 0);
        MittenLine x = allAt(999);
        for (int i = 0; i < 10; i++) reaches(x, i, 0, 999);
    }

    @Says("or HOLDING fast")
    static void p13_reach_as_far_as_the_next_one_who_HOLDS_lets() {
        MittenLine x = holding(1 << 5);
        reaches(x, 4, 25, 5);
        reaches(x, 6, 5, 25);
    }

    @Says("or HOLDING fast")
    static void p13_reach_0_if_the_STRING_to_one_who_HOLDS_is_TAUT() {
        MittenLine x = holding(1 << 5);
        x.string(4, 10);
        x.string(5, 10);
        reaches(x, 4, 20, 0);
        reaches(x, 6, 0, 20);
    }

    @Says("or HOLDING fast")
    static void p13_reach_as_far_as_one_further_along_who_HOLDS_lets() {
        MittenLine x = holding(1 << 9);
        reaches(x, 0, 225, 0);
        reaches(x, 5, 100, 20);
        MittenLine y = holding(1);
        reaches(y, 9, 45, 90);
        reaches(y, 1, 5, 10);
    }

    @Says("or HOLDING fast")
    static void p13_reach_the_nearest_limit_of_several_who_HOLD() {
        MittenLine x = holding(1 << 2 | 1 << 5);
        reaches(x, 4, 10, 5);
        reaches(x, 3, 5, 10);
        MittenLine y = holding(1 << 5 | 1 << 9);
        y.string(5, 99);
        reaches(y, 4, 25, 5);
        reaches(y, 6, 75, 15);
        reaches(y, 8, 25, 5);
    }

    @Says("Each CHILD is at a YARD 0 to 999")
    static void p13_reach_no_further_than_yards_0_and_999_though_one_who_HOLDS_lets() {
        reaches(holding(1 << 1), 0, 25, 0);
        MittenLine x = allAt(950);
        x.child(5, 950, 1);
        reaches(x, 4, 49, 99);
        reaches(x, 0, 49, 495);
    }

    @Says("at once (beyond 9, too)")
    static void p13_reach_is_what_a_step_can_be() {
        for (int child = 3; child <= 7; child++) {
            for (String way : new String[] {"<", ">"}) {
                MittenLine x = holding(1 << 2 | 1 << 5 | 1 << 8);
                int most = x.reach(child, way.equals(">") ? 0 : 1);
                char letter = (char) ('A' + child);
                if (most >= 1 && most <= 9) canBe(x, letter + way + most);
                if (most <= 8) canNotBe(x, letter + way + (most + 1), 0, 2);
            }
        }
    }

    @Says("REACH (as things are now)")
    static void p13_reach_the_PAD_is_all_one() {
        reaches(Due.told("F#"), 4, 959, 40);
        reaches(Due.told("E>5"), 4, 959, 40);
        reaches(Due.told("K"), 4, 959, 40);
        reaches(Due.told("A<1"), 4, 959, 40);
    }

    @Says("REACH (as things are now)")
    static void p13_reach_changes_nothing() {
        changesNothing(Cases::busy, x -> x.reach(4, 0));
        changesNothing(Cases::busy, x -> x.reach(4, 1));
    }

    // ---- 14 wind

    @Says("balls in a row (n digits, 1 to 9 of them; noughts ahead)")
    static void p14_wind_OUTSIDE_n_below_1() {
        refuses(x -> x.wind(0, 0, 0), OUTSIDE);
        refuses(x -> x.wind(0, -1, 0), OUTSIDE);
        refuses(x -> x.wind(5, LEAST, 1), OUTSIDE);
    }

    @Says("balls in a row (n digits, 1 to 9 of them; noughts ahead)")
    static void p14_wind_OUTSIDE_n_10() {
        refuses(x -> x.wind(123, 10, 0), OUTSIDE);
        refuses(x -> x.wind(1234567890, 10, 0), OUTSIDE);
        refuses(x -> x.wind(123, MOST, 1), OUTSIDE);
    }

    @Says("OUTSIDE: n, a row of more digits, what")
    static void p14_wind_OUTSIDE_a_row_of_more_digits() {
        refuses(x -> x.wind(10, 1, 0), OUTSIDE);
        refuses(x -> x.wind(100, 2, 0), OUTSIDE);
        refuses(x -> x.wind(100000000, 8, 1), OUTSIDE);
        refuses(x -> x.wind(1000000000, 9, 0), OUTSIDE);
        refuses(x -> x.wind(MOST, 9, 0), OUTSIDE);
    }

    @Says("OUTSIDE -2 (another number is not as told)")
    static void p14_wind_OUTSIDE_a_row_below_0() {
        refuses(x -> x.wind(-1, 9, 0), OUTSIDE);
        refuses(x -> x.wind(LEAST, 9, 1), OUTSIDE);
    }

    @Says("WIND: at the least (what = 0), at the most (1)")
    static void p14_wind_OUTSIDE_what_below_0_and_2() {
        refuses(x -> x.wind(123, 3, -1), OUTSIDE);
        refuses(x -> x.wind(123, 3, 2), OUTSIDE);
        refuses(x -> x.wind(123, 3, LEAST), OUTSIDE);
        refuses(x -> x.wind(123, 3, MOST), OUTSIDE);
    }

    @Says("till there is one")
    static void p14_wind_0_there_is_one_already() {
        winds(0, 1, 0, 0);
        winds(9, 1, 0, 0);
    }

    @Says("balls in a row (n digits, 1 to 9 of them; noughts ahead)")
    static void p14_wind_a_row_of_n_digits() {
        winds(99, 2, 18, 18);
        winds(999, 3, 45, 45);
        winds(123, 3, 9, 11);
    }

    @Says("balls in a row (n digits, 1 to 9 of them; noughts ahead)")
    static void p14_wind_noughts_ahead() {
        winds(12, 3, 4, 6);
        winds(0, 9, 0, 0);
        winds(7, 9, 7, 56);
    }

    @Says("balls in a row (n digits, 1 to 9 of them; noughts ahead)")
    static void p14_wind_9_digits() {
        // Of nines, at the least: seven of them are wound three times, two four times.
        winds(999999999, 9, 9 * (7 * 3 + 2 * 4), 9 * (2 + 3 + 4 + 5 + 6 + 7 + 8 + 9));
        winds(100000000, 9, 1, 8);
    }

    @Says("two side by side are wound into one, of both, in their place")
    static void p14_wind_two_side_by_side_alone() {
        winds(191, 3, 21, 21);
        winds(9119, 4, 33, 41);
        winds(1991, 4, 40, 57);
    }

    @Says("WIND: at the least (what = 0), at the most (1)")
    static void p14_wind_one_row_after_another() {
        MittenLine x = new MittenLine();
        for (int i = 0; i < 2; i++) {
            same("999999999 at the most", x.wind(999999999, 9, 1), 396);
            same("123 at the least", x.wind(123, 3, 0), 9);
            same("123 at the most", x.wind(123, 3, 1), 11);
            same("9", x.wind(9, 1, 0), 0);
            same("9119 at the least", x.wind(9119, 4, 0), 33);
        }
    }

    @Says("WIND: at the least (what = 0), at the most (1)")
    static void p14_wind_changes_nothing() {
        changesNothing(Cases::busy, x -> x.wind(987654321, 9, 0));
        changesNothing(Cases::busy, x -> x.wind(987654321, 9, 1));
    }

    // ---- 15 read

    @Says("OUTSIDE: words 1 to 999, the row, what")
    static void p15_read_OUTSIDE_a_word_0() {
        refuses(x -> x.read(0, 1, 1, 1, 1, 0), OUTSIDE);
        refuses(x -> x.read(1, 0, 1, 1, 1, 0), OUTSIDE);
        refuses(x -> x.read(1, 1, 0, 1, 1, 0), OUTSIDE);
        refuses(x -> x.read(1, 1, 1, 0, 1, 0), OUTSIDE);
    }

    @Says("OUTSIDE: words 1 to 999, the row, what")
    static void p15_read_OUTSIDE_a_word_1000() {
        refuses(x -> x.read(1000, 1, 1, 1, 1, 0), OUTSIDE);
        refuses(x -> x.read(1, 1000, 1, 1, 1, 0), OUTSIDE);
        refuses(x -> x.read(1, 1, 1000, 1, 1, 0), OUTSIDE);
        refuses(x -> x.read(1, 1, 1, 1000, 1, 0), OUTSIDE);
    }

    @Says("OUTSIDE: words 1 to 999, the row, what")
    static void p15_read_OUTSIDE_a_word_far_out() {
        refuses(x -> x.read(-1, 1, 1, 1, 1, 0), OUTSIDE);
        refuses(x -> x.read(1, LEAST, 1, 1, 1, 1), OUTSIDE);
        refuses(x -> x.read(1, 1, MOST, 1, 1, 0), OUTSIDE);
        refuses(x -> x.read(1, 1, 1, -1, 1, 1), OUTSIDE);
    }

    @Says("a row of squeezes (0 to 999999999; its digits, none ahead)")
    static void p15_read_OUTSIDE_a_row_below_0() {
        refuses(x -> x.read(1, 1, 1, 1, -1, 0), OUTSIDE);
        refuses(x -> x.read(1, 1, 1, 1, LEAST, 1), OUTSIDE);
    }

    @Says("a row of squeezes (0 to 999999999; its digits, none ahead)")
    static void p15_read_OUTSIDE_a_row_of_10_digits() {
        refuses(x -> x.read(1, 10, 100, 1, 1000000000, 0), OUTSIDE);
        refuses(x -> x.read(1, 1, 1, 1, MOST, 1), OUTSIDE);
    }

    @Says("READ: in how many ways (what = 0), by how few words (1; NONE)")
    static void p15_read_OUTSIDE_what_below_0_and_2() {
        refuses(x -> x.read(1, 1, 1, 1, 1, -1), OUTSIDE);
        refuses(x -> x.read(1, 1, 1, 1, 1, 2), OUTSIDE);
        refuses(x -> x.read(1, 1, 1, 1, 1, LEAST), OUTSIDE);
        refuses(x -> x.read(1, 1, 1, 1, 1, MOST), OUTSIDE);
    }

    @Says("four words (numbers 1 to 999, their digits are squeezes")
    static void p15_read_words_1_and_999_can_be() {
        reads(1, 999, 1, 999, 1999, 1, 2);
        reads(999, 1, 999, 1, 9991, 1, 2);
    }

    @Says("alike ones are one")
    static void p15_read_alike_words_are_one() {
        reads(1, 1, 1, 1, 111, 1, 3);
        reads(1, 11, 1, 11, 111, 3, 2);
        reads(1, 11, 111, 111, 1111, 7, 2);
        reads(12, 7, 7, 12, 712, 1, 2);
        reads(1, 2, 12, 121, 121, 3, 1);
    }

    @Says("0 is a row of one squeeze, 0")
    static void p15_read_NONE_of_the_row_0() {
        reads(1, 10, 100, 999, 0, 0, NONE);
    }

    @Says("(0 to 999999999; its digits, none ahead)")
    static void p15_read_the_row_999999999() {
        reads(999, 999, 999, 999, 999999999, 1, 3);
        reads(9, 99, 999, 9, 999999999, 149, 3);
    }

    @Says("(0 to 999999999; its digits, none ahead)")
    static void p15_read_a_row_of_one_squeeze() {
        reads(1, 2, 3, 4, 4, 1, 1);
        reads(1, 2, 3, 4, 9, 0, NONE);
    }

    @Says("by how few words (NONE)")
    static void p15_read_NONE_it_is_no_words() {
        reads(2, 3, 4, 5, 1, 0, NONE);
        reads(1, 2, 3, 4, 12345, 0, NONE);
        reads(2, 3, 4, 5, 12345, 0, NONE);
        reads(12, 34, 56, 78, 1235678, 0, NONE);
    }

    @Says("by how few words (NONE)")
    static void p15_read_NONE_the_row_is_shorter_than_the_words() {
        reads(123, 123, 123, 123, 23, 0, NONE);
        reads(10, 20, 30, 40, 1, 0, NONE);
    }

    @Says("their digits are squeezes")
    static void p15_read_noughts_stand_where_they_stand() {
        reads(10, 1, 100, 5, 10010, 1, 2);
        reads(5, 50, 7, 9, 505, 1, 2);
        reads(5, 7, 8, 9, 505, 0, NONE);
    }

    @Says("by how few words (NONE)")
    static void p15_read_by_how_few_words_of_several_ways() {
        reads(1, 11, 111, 9, 11111, 13, 2);
        reads(1, 2, 12, 22, 1222, 5, 2);
        reads(12, 2, 1, 1, 12, 2, 1);
        reads(1, 2, 12, 12, 12, 2, 1);
    }

    @Says("READ: in how many ways (what = 0), by how few words (1; NONE)")
    static void p15_read_one_row_after_another() {
        MittenLine x = new MittenLine();
        for (int i = 0; i < 2; i++) {
            same("111111111 in ways", x.read(1, 11, 111, 9, 111111111, 0), 149);
            same("111111111 by few", x.read(1, 11, 111, 9, 111111111, 1), 3);
            same("12 in ways", x.read(1, 2, 12, 9, 12, 0), 2);
            same("12 by few", x.read(1, 2, 12, 9, 12, 1), 1);
            same("13 in ways", x.read(1, 2, 12, 9, 13, 0), 0);
            same("13 by few", x.read(1, 2, 12, 9, 13, 1), NONE);
        }
    }

    @Says("READ: in how many ways (what = 0), by how few words (1; NONE)")
    static void p15_read_changes_nothing() {
        changesNothing(Cases::busy, x -> x.read(1, 11, 111, 9, 111111111, 0));
        changesNothing(Cases::busy, x -> x.read(1, 11, 111, 9, 111111111, 1));
    }

    // ---- 20 pull

    @Says("of n yards (0 to 99)")
    static void p20_pull_OUTSIDE_n_below_0() {
        refuses(x -> x.pull(-1, 1, 0, 0), OUTSIDE);
        refuses(x -> x.pull(LEAST, 1, 0, 1), OUTSIDE);
    }

    @Says("of n yards (0 to 99)")
    static void p20_pull_OUTSIDE_n_100() {
        refuses(x -> x.pull(100, 1, 0, 0), OUTSIDE);
        refuses(x -> x.pull(MOST, 1, 0, 1), OUTSIDE);
    }

    @Says("1 to k (1 to 9) of them")
    static void p20_pull_OUTSIDE_k_0_and_10() {
        refuses(x -> x.pull(5, 0, 0, 0), OUTSIDE);
        refuses(x -> x.pull(5, 10, 0, 0), OUTSIDE);
        refuses(x -> x.pull(5, LEAST, 0, 0), OUTSIDE);
        refuses(x -> x.pull(5, MOST, 0, 0), OUTSIDE);
    }

    @Says("OUTSIDE: n, k, just 0 to 9, what")
    static void p20_pull_OUTSIDE_just_below_0_and_10() {
        refuses(x -> x.pull(5, 3, -1, 0), OUTSIDE);
        refuses(x -> x.pull(5, 3, 10, 0), OUTSIDE);
        refuses(x -> x.pull(5, 3, LEAST, 0), OUTSIDE);
        refuses(x -> x.pull(5, 3, MOST, 0), OUTSIDE);
    }

    @Says("OUTSIDE: n, k, just 0 to 9, what")
    static void p20_pull_OUTSIDE_what_below_0_and_2() {
        refuses(x -> x.pull(5, 3, 0, -1), OUTSIDE);
        refuses(x -> x.pull(5, 3, 0, 2), OUTSIDE);
        refuses(x -> x.pull(5, 3, 0, LEAST), OUTSIDE);
        refuses(x -> x.pull(5, 3, 0, MOST), OUTSIDE);
    }

    @Says("who can not has lost")
    static void p20_pull_NONE_of_no_yards() {
        pulls(0, 1, 0, 0, NONE);
        pulls(0, 9, 9, 0, NONE);
    }

    @Says("whether who begins can win (1, 0); how many it pulls first for it, the least (NONE)")
    static void p20_pull_NONE_who_begins_can_not_win() {
        pulls(3, 2, 0, 0, NONE);
        pulls(1, 1, 1, 0, NONE);
        pulls(1, 9, 1, 0, NONE);
    }

    @Says("but not as many as the other one did just now (0: nobody did)")
    static void p20_pull_not_as_many_as_the_other_one_did_just_now() {
        pulls(1, 1, 0, 1, 1);
        pulls(1, 1, 1, 0, NONE);
        pulls(2, 2, 0, 1, 1);
        pulls(2, 2, 1, 1, 2);
        pulls(2, 1, 0, 1, 1);
        pulls(3, 3, 3, 0, NONE);
    }

    @Says("OUTSIDE: n, k, just 0 to 9, what")
    static void p20_pull_just_more_than_k_forbids_nothing() {
        Model model = new Model();
        for (int just = 4; just <= 9; just++) pulls(7, 3, just, model.pull(7, 3, 0, 0), model.pull(7, 3, 0, 1));
        pulls(1, 1, 2, 1, 1);
        pulls(1, 1, 9, 1, 1);
    }

    @Says("1 to k (1 to 9) of them")
    static void p20_pull_no_more_than_are_left() {
        pulls(1, 9, 0, 1, 1);
        pulls(2, 9, 1, 1, 2);
        pulls(3, 9, 0, 1, 3);
    }

    @Says("1 to k (1 to 9) of them")
    static void p20_pull_no_more_than_k() {
        pulls(3, 2, 0, 0, NONE);
        pulls(3, 3, 0, 1, 3);
        pulls(9, 9, 0, 1, 9);
        pulls(9, 8, 0, 0, NONE);
    }

    @Says("of n yards (0 to 99)")
    static void p20_pull_99_yards_by_1_to_9() {
        Model model = new Model();
        for (int k = 1; k <= 9; k++) {
            for (int just = 0; just <= 9; just++) {
                pulls(99, k, just, model.pull(99, k, just, 0), model.pull(99, k, just, 1));
            }
        }
    }

    @Says("PULL: whether (what = 0), how many (1; NONE)")
    static void p20_pull_one_after_another() {
        MittenLine x = new MittenLine();
        for (int i = 0; i < 2; i++) {
            same("pull(99, 9, 0, 1)", x.pull(99, 9, 0, 1), new Model().pull(99, 9, 0, 1));
            same("pull(7, 3, 1, 1)", x.pull(7, 3, 1, 1), 3);
            same("pull(3, 2, 0, 1)", x.pull(3, 2, 0, 1), NONE);
            same("pull(1, 1, 1, 0)", x.pull(1, 1, 1, 0), 0);
        }
    }

    @Says("PULL: whether (what = 0), how many (1; NONE)")
    static void p20_pull_changes_nothing() {
        changesNothing(Cases::busy, x -> x.pull(99, 9, 3, 0));
        changesNothing(Cases::busy, x -> x.pull(99, 9, 3, 1));
    }

    // ---- 21 passed

    @Says("goes along n CHILDREN (0 to 16)")
    static void p21_passed_OUTSIDE_n_below_0() {
        refuses(x -> x.passed(-1, 3, 0, 0), GONE_OUTSIDE);
        refuses(x -> x.passed(LEAST, 3, 1, 1), GONE_OUTSIDE);
    }

    @Says("goes along n CHILDREN (0 to 16)")
    static void p21_passed_OUTSIDE_n_17() {
        refuses(x -> x.passed(17, 3, 0, 0), GONE_OUTSIDE);
        refuses(x -> x.passed(MOST, 3, 1, 0), GONE_OUTSIDE);
    }

    @Says("with t tenths (0 to 10)")
    static void p21_passed_OUTSIDE_t_below_0() {
        refuses(x -> x.passed(3, -1, 0, 0), GONE_OUTSIDE);
        refuses(x -> x.passed(3, LEAST, 1, 0), GONE_OUTSIDE);
    }

    @Says("with t tenths (0 to 10)")
    static void p21_passed_OUTSIDE_t_11() {
        refuses(x -> x.passed(3, 11, 0, 0), GONE_OUTSIDE);
        refuses(x -> x.passed(3, MOST, 1, 0), GONE_OUTSIDE);
    }

    @Says("PASSED: as it was (what = 0), the mean (1). OUTSIDE")
    static void p21_passed_OUTSIDE_what_below_0_and_2() {
        refuses(x -> x.passed(3, 3, -1, 0), GONE_OUTSIDE);
        refuses(x -> x.passed(3, 3, 2, 0), GONE_OUTSIDE);
        refuses(x -> x.passed(3, 3, LEAST, 0), GONE_OUTSIDE);
        refuses(x -> x.passed(3, 3, MOST, 0), GONE_OUTSIDE);
    }

    @Says("by part: 0 the upper, 1 the lower number")
    static void p21_passed_OUTSIDE_part_below_0_and_2() {
        refuses(x -> x.passed(3, 3, 0, -1), GONE_OUTSIDE);
        refuses(x -> x.passed(3, 3, 1, 2), GONE_OUTSIDE);
        refuses(x -> x.passed(3, 3, 0, LEAST), GONE_OUTSIDE);
        refuses(x -> x.passed(3, 3, 1, MOST), GONE_OUTSIDE);
    }

    @Says("refused with GONE and the refusal")
    static void p21_passed_OUTSIDE_is_GONE_and_the_refusal() {
        same("GONE and OUTSIDE", new MittenLine().passed(17, 11, 2, 2), MittenLine.GONE + MittenLine.OUTSIDE);
    }

    @Says("goes along n CHILDREN (0 to 16)")
    static void p21_passed_along_no_CHILDREN() {
        for (int t = 0; t <= 10; t++) {
            isPassed(0, t, 0, 1, 1);
            isPassed(0, t, 1, 0, 1);
        }
    }

    @Says("goes along n CHILDREN (0 to 16)")
    static void p21_passed_along_16_CHILDREN() {
        // Half of 1 and of 4/5 to the 16th.
        isPassed(16, 1, 0, 156882857921L, 305175781250L);
        isPassed(16, 9, 0, 156882857921L, 305175781250L);
        isPassed(16, 10, 1, 16, 1);
        isPassed(16, 1, 1, 8, 5);
    }

    @Says("with t tenths (0 to 10)")
    static void p21_passed_0_tenths() {
        isPassed(1, 0, 0, 1, 1);
        isPassed(16, 0, 0, 1, 1);
        isPassed(16, 0, 1, 0, 1);
    }

    @Says("with t tenths (0 to 10)")
    static void p21_passed_10_tenths() {
        isPassed(1, 10, 0, 0, 1);
        isPassed(2, 10, 0, 1, 1);
        isPassed(15, 10, 0, 0, 1);
        isPassed(16, 10, 0, 1, 1);
        isPassed(15, 10, 1, 15, 1);
    }

    @Says("each of whom turns it about with t tenths (0 to 10), by itself")
    static void p21_passed_less_likely_than_not() {
        isPassed(1, 9, 0, 1, 10);
        isPassed(15, 9, 0, 29443836301L, 61035156250L);
    }

    @Says("Fractions are told in lowest terms by part")
    static void p21_passed_in_lowest_terms() {
        isPassed(1, 5, 0, 1, 2);
        isPassed(7, 5, 0, 1, 2);
        isPassed(1, 4, 0, 3, 5);
        isPassed(2, 1, 0, 41, 50);
        isPassed(3, 4, 1, 6, 5);
        isPassed(2, 5, 1, 1, 1);
        isPassed(1, 3, 1, 3, 10);
    }

    @Says("PASSED: as it was (what = 0), the mean (1)")
    static void p21_passed_changes_nothing() {
        changesNothing(Cases::busy, x -> x.passed(16, 3, 0, 0));
        changesNothing(Cases::busy, x -> x.passed(16, 3, 1, 1));
    }

    // ---- 22 year

    @Says("A YEAR by a seed (0 to 9999)")
    static void p22_year_OUTSIDE_seed_below_0() {
        refuses(x -> x.year(-1, 5, 0), OUTSIDE);
        refuses(x -> x.year(LEAST, 5, 0), OUTSIDE);
    }

    @Says("A YEAR by a seed (0 to 9999)")
    static void p22_year_OUTSIDE_seed_10000() {
        refuses(x -> x.year(10000, 5, 0), OUTSIDE);
        refuses(x -> x.year(MOST, 5, 0), OUTSIDE);
    }

    @Says("of m ACTS (1 to 99)")
    static void p22_year_OUTSIDE_m_0() {
        refuses(x -> x.year(5, 0, 0), OUTSIDE);
        refuses(x -> x.year(5, -1, 0), OUTSIDE);
        refuses(x -> x.year(5, LEAST, 0), OUTSIDE);
    }

    @Says("of m ACTS (1 to 99)")
    static void p22_year_OUTSIDE_m_100() {
        refuses(x -> x.year(5, 100, 0), OUTSIDE);
        refuses(x -> x.year(5, MOST, 0), OUTSIDE);
    }

    @Says("A YEAR: the YARD (what = 0), DRAWN (1), the BALL (2). OUTSIDE")
    static void p22_year_OUTSIDE_what_below_0_and_3() {
        refuses(x -> x.year(5, 5, -1), OUTSIDE);
        refuses(x -> x.year(5, 5, 3), OUTSIDE);
        refuses(x -> x.year(5, 5, LEAST), OUTSIDE);
        refuses(x -> x.year(5, 5, MOST), OUTSIDE);
    }

    @Says("A YEAR by a seed (0 to 9999)")
    static void p22_year_seed_0_can_be() {
        // 74: E, and 7 is a day; then 5624: E, and 562 leaves 2, z is 70: back by 8, F is 3 too far off.
        years(new MittenLine(), 0, 1, 0, 0, 20);
        years(new MittenLine(), 0, 2, 0, 1, 20);
    }

    @Says("A YEAR by a seed (0 to 9999)")
    static void p22_year_seed_9999_can_be() {
        // 749999 leaves 29092: C, and 2909 leaves 5: let out.
        years(new MittenLine(), 9999, 1, 0, 0, 19);
    }

    @Says("becomes (75 x and 74) left over by 65537")
    static void p22_year_x_just_below_65537_and_just_beyond() {
        // 873: 65549 leaves 12: C, and 1 is on, by 1.
        years(withStrings(10), 873, 1, 1, 2, 20);
        // 872: 65474 leaves itself: E, and 6547 leaves 3: it holds.
        years(withStrings(10), 872, 1, 0, 0, 20);
        // 8737: 655349 leaves 65516: G, and 6551 leaves 7: a day.
        years(withStrings(10), 8737, 1, 0, 0, 20);
        // 874: 65624 leaves 87: H, and 8 leaves 0: on by 2, for 1 leaves 1.
        years(withStrings(10), 874, 1, 2, 7, 20);
    }

    @Says("becomes (75 x and 74) left over by 65537")
    static void p22_year_x_is_0_in_between() {
        // The second of the first 15 acts is B on by 7, A is drawn by 2; the 16th x is 0: A on by 1.
        same("year(5525, 15, 0)", new MittenLine().year(5525, 15, 0), 2);
        same("year(5525, 16, 0)", new MittenLine().year(5525, 16, 0), 3);
    }

    @Says("of m ACTS (1 to 99)")
    static void p22_year_the_99th_ACT_can_be() {
        // The 99th x of this seed is 0, too: A on by 1.
        Model model = new Model();
        same("year(5931, 98, 0)", new MittenLine().year(5931, 98, 0), model.year(5931, 98, 0));
        same("year(5931, 99, 0)", new MittenLine().year(5931, 99, 0), model.year(5931, 98, 0) + 1);
    }

    @Says("0, 1 it goes on by 1 more than what z leaves over by 9")
    static void p22_year_on_by_1_and_by_9() {
        // 1440: A, 144 leaves 0, z is 18. 2800: A, 280 leaves 0, z is 35. 1450: A, 145 leaves 1, z is 18.
        years(new MittenLine(), 6135, 1, 1, 0, 20);
        years(new MittenLine(), 1784, 1, 9, 0, 20);
        years(new MittenLine(), 1766, 1, 1, 0, 20);
    }

    @Says("2 back by as many")
    static void p22_year_back_by_9() {
        // 3540: A, 354 leaves 2, z is 44.
        MittenLine x = new MittenLine();
        x.child(0, 20, 0);
        years(x, 6163, 1, 11, 0, 20);
        x.child(0, 9, 0);
        years(x, 6163, 1, 0, 0, 20);
    }

    @Says("each if that can be")
    static void p22_year_what_can_not_be_is_not_and_counts_among_the_ACTS() {
        // 1892: A back by 2, then A on by 3; 6259: A back by 9, then A on by 6.
        years(new MittenLine(), 1892, 1, 0, 0, 20);
        years(new MittenLine(), 1892, 2, 3, 0, 20);
        years(new MittenLine(), 6259, 2, 6, 0, 20);
        years(allAt(999), 2120, 2, 999, 0, 20);
    }

    @Says("3 it HOLDS, or no more")
    static void p22_year_it_HOLDS_or_no_more() {
        // 2242: A holds, or no more, then on by 9.
        years(new MittenLine(), 2242, 2, 0, 0, 20);
        years(holding(1), 2242, 2, 9, 0, 20);
    }

    @Says("each if that can be")
    static void p22_year_one_who_HOLDS_is_not_DRAWN() {
        // 14: E on by 6; D would be drawn.
        years(new MittenLine(), 14, 1, 0, 1, 20);
        years(holding(1 << 3), 14, 1, 0, 0, 20);
        years(holding(1 << 4), 14, 1, 0, 0, 20);
    }

    @Says("4 a squeeze of 1 more than what z leaves over by 9")
    static void p22_year_a_squeeze_moves_nothing() {
        // 1776: A, 220 leaves 4.
        years(withStrings(10), 1776, 1, 0, 0, 20);
    }

    @Says("5 let out")
    static void p22_year_let_out_if_that_can_be() {
        // 6125: A lets out; 19: J lets out, and has no next one.
        years(new MittenLine(), 6125, 1, 0, 0, 19);
        years(withBall(1), 6125, 1, 0, 0, 0);
        years(withBall(0), 6125, 1, 0, 0, 0);
        years(withString(0, 98), 6125, 1, 0, 0, 19);
        years(withString(0, 99), 6125, 1, 0, 0, 20);
        years(new MittenLine(), 19, 1, 0, 0, 20);
        // 2478: A lets out twice.
        years(withString(0, 98), 2478, 2, 0, 0, 19);
        years(withBall(1), 2478, 2, 0, 0, 0);
    }

    @Says("6 wound")
    static void p22_year_wound_if_that_can_be() {
        // 1756: A winds; 8767: J winds, and has no next one.
        years(new MittenLine(), 1756, 1, 0, 0, 21);
        years(withBall(998), 1756, 1, 0, 0, 999);
        years(withBall(999), 1756, 1, 0, 0, 999);
        years(withString(0, 11), 1756, 1, 0, 0, 21);
        years(withString(0, 10), 1756, 1, 0, 0, 20);
        years(firstTwoTogether(1), 1756, 1, 10, 0, 20);
        years(new MittenLine(), 8767, 1, 0, 0, 20);
    }

    @Says("7 a day")
    static void p22_year_a_day_beyond_day_99_is_not() {
        // 1786: a day, and nothing of it is told.
        years(atDay(99), 1786, 1, 0, 0, 20);
        MittenLine x = atDay(99);
        Model model = new Model();
        for (int seed = 0; seed < 9999; seed += 101) {
            for (int what = 0; what < 3; what++) same("year(" + seed + ", 99, " + what + ")", x.year(seed, 99, what), model.year(seed, 99, what));
        }
    }

    @Says("how many are DRAWN")
    static void p22_year_DRAWN_each_in_each_ACT_once() {
        // 125: J on by 2, and by 2 again; all nine are drawn twice.
        years(withStrings(10), 125, 1, 2, 9, 20);
        years(withStrings(10), 125, 2, 4, 18, 20);
    }

    @Says("from all as it is")
    static void p22_year_from_all_as_it_is_but_the_PAD() {
        for (int what = 0; what < 3; what++) {
            int due = busyWith("").year(77, 99, what);
            same("a text, " + what, busy().year(77, 99, what), due);
            same("a fault, " + what, busyWithFault().year(77, 99, what), due);
            same("what can not be, " + what, busyWithWhatCanNotBe().year(77, 99, what), due);
        }
        years(withBall(500), 9999, 1, 0, 0, 499);
    }

    @Says("Nothing is DONE in fact")
    static void p22_year_one_after_another() {
        MittenLine x = withStrings(10);
        for (int i = 0; i < 2; i++) {
            years(x, 125, 2, 4, 18, 20);
            years(x, 873, 1, 1, 2, 20);
            years(x, 9999, 1, 0, 0, 19);
        }
    }

    @Says("Nothing is DONE in fact")
    static void p22_year_changes_nothing() {
        for (int what = 0; what < 3; what++) {
            int asked = what;
            changesNothing(Cases::busy, x -> x.year(77, 99, asked));
            changesNothing(Cases::busy, x -> x.year(873, 1, asked));
        }
    }
}
