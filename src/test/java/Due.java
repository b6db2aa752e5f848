/** Counts the answers that are not the ones that are due. */
final class Due {
    private final String title;
    private int checks;
    private int wrong;

    Due(String title) {
        this.title = title;
    }

    void same(String call, long got, long want) {
        checks++;
        if (got == want) return;
        wrong++;
        if (wrong <= 40) System.out.println(title + ": " + call + " answered " + got + ", due is " + want);
    }

    void end() {
        System.out.println(title + ": " + checks + " answers, " + wrong + " of them not as due");
        if (wrong != 0 || checks == 0) System.exit(1);
    }

    /** Says a whole text on the pad. */
    static MittenLine say(MittenLine x, String text) {
        for (int i = 0; i < text.length(); i++) x.say(text.charAt(i));
        return x;
    }

    /** A new object with a text on its pad. */
    static MittenLine told(String text) {
        return say(new MittenLine(), text);
    }

    /** Says a text on an empty pad and does it. */
    static int does(MittenLine x, String text) {
        x.wipe();
        return say(x, text).done();
    }
}
