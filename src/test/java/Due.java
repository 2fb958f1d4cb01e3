import java.util.List;

/** Counts the calls whose answer is not the one that is due. */
final class Due {
    private final String test;
    private String sentence = "";
    private int asked = 0;
    private int askedBeforeSentence = 0;
    private int wrong = 0;

    Due(String test) {
        this.test = test;
    }

    /** The document's words to which the answers from here on are held. */
    void of(String words) {
        endSentence();
        sentence = words;
        askedBeforeSentence = asked;
    }

    void is(String call, long got, long want) {
        asked++;
        if (got != want) {
            tell(call + " answered " + got + ", due is " + want);
        }
    }

    void yes(String call, boolean got) {
        is(call, got ? 1 : 0, 1);
    }

    void no(String call, boolean got) {
        is(call, got ? 1 : 0, 0);
    }

    void same(String call, String got, String want) {
        asked++;
        if (!got.equals(want)) {
            tell(call + " answered " + got + ", due is " + want);
        }
    }

    void alike(String call, List<String> got, List<String> want) {
        asked++;
        for (int i = 0; i < got.size() && i < want.size(); i++) {
            if (!got.get(i).equals(want.get(i))) {
                tell(call + ": then " + got.get(i) + ", due is " + want.get(i));
                return;
            }
        }
        if (got.size() != want.size()) {
            tell(call + ": then " + got.size() + " answers, due are " + want.size());
        }
    }

    void end() {
        endSentence();
        System.out.println(test + ": " + asked + " answers, " + wrong + " not as due");
        if (wrong != 0) {
            System.exit(1);
        }
    }

    private void tell(String what) {
        wrong++;
        System.out.println(test + (sentence.isEmpty() ? "" : ": '" + sentence + "'") + ": " + what);
    }

    /** A sentence that is named and never asked about would look tested. */
    private void endSentence() {
        if (!sentence.isEmpty() && asked == askedBeforeSentence) {
            tell("nothing was asked");
        }
    }
}
