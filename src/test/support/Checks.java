import java.util.function.IntSupplier;

/** What the tests share: the document's words for numbers, and the telling of answers that are not due. */
class Checks {
    static final int NEW = 0;
    static final int REPLACE = 1;
    static final int CHANGE = 2;
    static final int ASK = 3;
    static final int CANCEL = 4;

    static final int UNKNOWN = 0;
    static final int OPEN = 1;
    static final int FIXED = 2;
    static final int CANCELLED = 3;

    static final int HELD = 0;
    static final int ACTED = 1;
    static final int REFUSED = 2;
    static final int WAITS = 3;
    static final int TRIED_AGAIN = 4;
    static final int DEAD = 5;
    static final int LOST = 6;

    static final int NONE = -1;
    static final int[] WRONG_SENDERS = {-1, 4, Integer.MIN_VALUE, Integer.MAX_VALUE};
    static final int[] WRONG_NUMBERS = {0, 25, -1, Integer.MIN_VALUE, Integer.MAX_VALUE};
    static final int[] WRONG_FUNCTIONS = {-1, 5, Integer.MIN_VALUE, Integer.MAX_VALUE};
    static final int[] WRONG_SUBJECTS = {-1, 16, Integer.MIN_VALUE, Integer.MAX_VALUE};
    static final int[] WRONG_VALUES = {-1001, 1001, Integer.MIN_VALUE, Integer.MAX_VALUE};

    private static String sentence = "";
    private static int sentences = 0;
    private static int checks = 0;
    private static int wrong = 0;

    private static void tellWrong(String text) {
        wrong++;
        System.out.println((sentence.isEmpty() ? "" : "[" + sentence + "] ") + text);
    }

    static void due(String call, int got, int want) {
        checks++;
        if (got != want) {
            tellWrong(call + " answered " + got + ", due is " + want);
        }
    }

    static void due(String call, boolean got, boolean want) {
        due(call, got ? 1 : 0, want ? 1 : 0);
    }

    static void due(String call, String got, String want) {
        checks++;
        if (!got.equals(want)) {
            tellWrong(call + ": seen is\n  " + got + "\ndue is\n  " + want);
        }
    }

    private static void dueThrow(String call, Class<? extends RuntimeException> want, IntSupplier asked) {
        checks++;
        String got;
        try {
            got = "answered " + asked.getAsInt();
        } catch (RuntimeException e) {
            if (e.getClass() == want) {
                return;
            }
            got = "threw " + e.getClass().getSimpleName();
        }
        tellWrong(call + " " + got + ", due is " + want.getSimpleName());
    }

    static void dueIllegal(String call, IntSupplier asked) {
        dueThrow(call, IllegalArgumentException.class, asked);
    }

    static void dueIndex(String call, IntSupplier asked) {
        dueThrow(call, IndexOutOfBoundsException.class, asked);
    }

    /** State and value of a subject at once. */
    static void dueSubject(String when, MessageActs x, int subject, int state, int value) {
        due(when + ": state of " + subject, x.look(subject, 0), state);
        due(when + ": value of " + subject, x.look(subject, 1), value);
    }

    static void dueActs(String when, MessageActs x, int... names) {
        for (int i = 0; i < names.length; i++) {
            due(when + ": act(" + i + ")", x.act(i), names[i]);
        }
        due(when + ": act behind the last", x.act(names.length), NONE);
        due(when + ": count(0)", x.count(0), names.length);
    }

    static void dueDeads(String when, MessageActs x, int... names) {
        for (int i = 0; i < names.length; i++) {
            due(when + ": dead(" + i + ")", x.dead(i), names[i]);
        }
        due(when + ": dead behind the last", x.dead(names.length), NONE);
        due(when + ": count(1)", x.count(1), names.length);
    }

    /** All that an object tells of itself, in some 290 calls; it turns off what was told to fail, to see it. */
    static String seen(MessageActs x) {
        return seenOfSenders(x) + seenOfTheRest(x);
    }

    private static String seenOfSenders(MessageActs x) {
        StringBuilder text = new StringBuilder();
        for (int sender = 0; sender < 4; sender++) {
            text.append(" sender ").append(sender).append(':');
            for (int what = 0; what < 4; what++) {
                text.append(' ').append(x.of(sender, what));
            }
            for (int number = 1; number <= 24; number++) {
                text.append(' ').append(x.status(sender, number)).append('/').append(x.answer(sender, number));
            }
        }
        return text.toString();
    }

    static String seenOfTheRest(MessageActs x) {
        StringBuilder text = new StringBuilder();
        for (int subject = 0; subject < 16; subject++) {
            text.append(" subject ").append(subject).append(':');
            for (int what = 0; what < 4; what++) {
                text.append(' ').append(x.look(subject, what));
            }
        }
        return text.append(seenInOrder(x)).toString();
    }

    private static String seenInOrder(MessageActs x) {
        StringBuilder text = new StringBuilder(" counts:");
        for (int what = 0; what < 6; what++) {
            text.append(' ').append(x.count(what));
        }
        int acts = x.count(0);
        int deads = x.count(1);
        text.append(" acts:");
        for (int i = 0; i <= acts && i <= 96; i++) {
            text.append(' ').append(x.act(i));
        }
        text.append(" deads:");
        for (int i = 0; i <= deads && i <= 96; i++) {
            text.append(' ').append(x.dead(i));
        }
        text.append(" failing:");
        for (int function = NEW; function <= CANCEL; function++) {
            text.append(x.fails(function, false) ? " on" : " off");
        }
        return text.toString();
    }

    /** Runs the test of one sentence; what it tells of wrong answers is told with the sentence. */
    static void sentence(String section, String words, Runnable test) {
        sentence = section + ": " + words;
        sentences++;
        int before = checks;
        try {
            test.run();
        } catch (RuntimeException e) {
            tellWrong("the test ended by " + e);
        }
        if (checks == before) {
            tellWrong("nothing was looked at");
        }
        sentence = "";
    }

    static void end() {
        String of = sentences == 0 ? "" : " of " + sentences + " sentences";
        System.out.println(checks + " checks" + of + ", " + wrong + " wrong");
        if (wrong != 0) {
            System.exit(1);
        }
    }
}
