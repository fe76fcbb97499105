/** Boundary cases of the fifteen promises, a test for each sentence. */
public final class PromiseEdges extends Checks {
    private static final int[] WRONG_WHATS_OF_FOUR = {-1, 4, Integer.MIN_VALUE, Integer.MAX_VALUE};
    private static final int[] WRONG_WHATS_OF_SIX = {-1, 6, Integer.MIN_VALUE, Integer.MAX_VALUE};

    // Promise 1

    private static void nothingCame() {
        MessageActs x = new MessageActs();
        StringBuilder empty = new StringBuilder();
        for (int sender = 0; sender < 4; sender++) {
            empty.append(" sender ").append(sender).append(": 1 0 0 0").append(" -1/0".repeat(24));
        }
        for (int subject = 0; subject < 16; subject++) {
            empty.append(" subject ").append(subject).append(": 0 0 0 0");
        }
        empty.append(" counts: 0 0 0 0 0 0 acts: -1 deads: -1 failing: off off off off off");
        due("a new object", seen(x), empty.toString());
    }

    private static void aNewObjectTakesCalls() {
        MessageActs x = new MessageActs();
        due("skip", x.skip(0), NONE);
        due("cut", x.cut(0), 0);
        due("replay", x.replay(0, 1), 0);
        due("point", x.point(0), false);
        due("tick", x.tick(0), 0);
    }

    private static void nowIs0() {
        MessageActs x = new MessageActs();
        due("NOW", x.count(2), 0);
        dueIllegal("ahead of it", () -> x.tick(-1));
    }

    private static void anotherObjectIsNew() {
        MessageActs x = new MessageActs();
        x.receive(0, 1, NEW, 0, 1);
        x.receive(0, 3, NEW, 0, 1);
        x.fails(NEW, true);
        x.tick(8);
        nothingCame();
    }

    // Promise 2

    private static void receiveAnswers1To5() {
        MessageActs x = new MessageActs();
        due("ACTED", x.receive(0, 1, NEW, 0, 1), 1);
        due("HELD", x.receive(0, 3, CHANGE, 0, 1), 2);
        due("came already", x.receive(0, 1, NEW, 0, 1), 3);
        due("WAITS", x.receive(1, 1, CHANGE, 1, 1), 4);
        x.fails(CHANGE, true);
        due("TRIED AGAIN", x.receive(2, 1, CHANGE, 0, 1), 5);
    }

    private static void receiveAnswersMinusTheRule() {
        MessageActs x = new MessageActs();
        x.receive(0, 1, NEW, 0, 1);
        due("by rule 1", x.receive(0, 2, NEW, 0, 1), -1);
        x.point(0);
        due("by rule 2", x.receive(0, 3, REPLACE, 0, 1), -2);
        x.receive(0, 4, NEW, 1, 1);
        x.receive(0, 5, CANCEL, 1, 1);
        due("by rule 3", x.receive(0, 6, REPLACE, 1, 1), -3);
        for (int number = 7; number <= 18; number++) {
            x.receive(0, number, REPLACE, 2, 1);
        }
        due("by rule 5", x.receive(0, 19, REPLACE, 2, 1), -5);
    }

    private static void receiveAnswersOfTheMessageItself() {
        MessageActs x = new MessageActs();
        x.receive(0, 2, CHANGE, 0, 1);
        x.receive(0, 3, NEW, 0, 1);
        due("those behind it are not told", x.receive(0, 1, NEW, 0, 1), 1);
        due("refused behind it", x.answer(0, 3), -1);
        MessageActs y = new MessageActs();
        y.receive(0, 1, CANCEL, 0, 0);
        y.fails(CANCEL, true);
        due("those woken are not told", y.receive(1, 1, NEW, 0, 0), 1);
        due("failed", y.status(0, 1), TRIED_AGAIN);
    }

    private static void receiveAnswersWhatItComesToThen() {
        MessageActs x = new MessageActs();
        x.receive(0, 2, NEW, 0, 5);
        due("woken by what is held behind it", x.receive(0, 1, CHANGE, 0, 2), 1);
        dueSubject("woken", x, 0, OPEN, 7);
    }

    private static void receiveThrowsForEachArgument() {
        MessageActs x = new MessageActs();
        for (int sender : WRONG_SENDERS) {
            dueIllegal("sender " + sender, () -> x.receive(sender, 1, NEW, 0, 0));
        }
        for (int number : WRONG_NUMBERS) {
            dueIllegal("number " + number, () -> x.receive(0, number, NEW, 0, 0));
        }
        for (int function : WRONG_FUNCTIONS) {
            dueIllegal("function " + function, () -> x.receive(0, 1, function, 0, 0));
        }
        for (int subject : WRONG_SUBJECTS) {
            dueIllegal("subject " + subject, () -> x.receive(0, 1, NEW, subject, 0));
        }
        for (int value : WRONG_VALUES) {
            dueIllegal("value " + value, () -> x.receive(0, 1, NEW, 0, value));
        }
        due("nothing came", x.of(0, 3), 0);
        due("the least of each", x.receive(0, 1, 0, 0, -1000), 1);
        due("the greatest of each", x.receive(3, 24, 4, 15, 1000), 2);
    }

    private static void receiveThrowsForADoubleToo() {
        MessageActs x = new MessageActs();
        x.receive(0, 1, NEW, 0, 0);
        dueIllegal("function", () -> x.receive(0, 1, 5, 0, 0));
        dueIllegal("subject", () -> x.receive(0, 1, NEW, 16, 0));
        dueIllegal("value", () -> x.receive(0, 1, NEW, 0, 1001));
        due("no double", x.count(3), 0);
    }

    // Promise 3

    private static void statusOfEach() {
        MessageActs x = new MessageActs();
        x.receive(0, 1, NEW, 0, 1);
        x.receive(0, 2, NEW, 0, 1);
        x.receive(0, 3, CHANGE, 1, 1);
        x.fails(CHANGE, true);
        x.receive(0, 4, CHANGE, 0, 1);
        x.receive(0, 6, CHANGE, 0, 1);
        int[] due = {ACTED, REFUSED, WAITS, TRIED_AGAIN, NONE, HELD, NONE};
        for (int i = 0; i < due.length; i++) {
            due("status of " + (i + 1), x.status(0, i + 1), due[i]);
        }
        x.cut(0);
        due("LOST", x.status(0, 6), LOST);
        x.tick(51);
        due("DEAD", x.status(0, 3), DEAD);
    }

    private static void statusIsNoneWithoutMessage() {
        MessageActs x = new MessageActs();
        x.receive(0, 3, NEW, 0, 1);
        due("a gap", x.status(0, 1), NONE);
        due("did not come yet", x.status(0, 4), NONE);
        due("the last", x.status(0, 24), NONE);
        due("of another sender", x.status(1, 3), NONE);
        x.tick(101);
        x.skip(0);
        due("skipped", x.status(0, 1), NONE);
        x.receive(0, 1, NEW, 0, 1);
        due("skipped, and a double", x.status(0, 1), NONE);
    }

    private static void statusThrows() {
        MessageActs x = new MessageActs();
        for (int sender : WRONG_SENDERS) {
            dueIllegal("sender " + sender, () -> x.status(sender, 1));
        }
        for (int number : WRONG_NUMBERS) {
            dueIllegal("number " + number, () -> x.status(0, number));
        }
        due("the least", x.status(0, 1), NONE);
        due("the greatest", x.status(3, 24), NONE);
    }

    // Promise 4

    private static void answerOfWhatAsked() {
        MessageActs x = new MessageActs();
        x.receive(0, 1, ASK, 0, 0);
        due("UNKNOWN", x.answer(0, 1), 0);
        x.receive(0, 2, NEW, 0, 1000);
        x.receive(0, 3, ASK, 0, 0);
        due("OPEN", x.answer(0, 3), 10001);
        x.receive(0, 4, REPLACE, 0, -1000);
        x.receive(0, 5, ASK, 0, 0);
        due("less than 0", x.answer(0, 5), -9999);
        x.receive(0, 6, CANCEL, 0, 0);
        x.receive(0, 7, ASK, 0, 0);
        due("CANCELLED", x.answer(0, 7), -9997);
        x.receive(0, 8, NEW, 0, 0);
        x.point(0);
        x.receive(0, 9, ASK, 0, 0);
        due("FIXED", x.answer(0, 9), 2);
        due("as they were then", x.answer(0, 1), 0);
        due("as they were then", x.answer(0, 3), 10001);
        due("as they were then", x.answer(0, 5), -9999);
    }

    private static void answerOfWhatAskedAheadOfAGap() {
        MessageActs x = new MessageActs();
        x.receive(0, 2, NEW, 0, 7);
        x.receive(0, 3, ASK, 0, 0);
        x.receive(0, 1, ASK, 0, 0);
        due("what is held did not act yet", x.answer(0, 3), 0);
        due("it acts before those behind it", x.answer(0, 1), 0);
        x.receive(0, 4, ASK, 0, 0);
        due("then", x.answer(0, 4), 71);
    }

    private static void answerOfWhatAskedAndFailed() {
        MessageActs x = new MessageActs();
        x.receive(0, 1, NEW, 0, 7);
        x.fails(ASK, true);
        x.receive(0, 2, ASK, 0, 0);
        due("it did not act", x.answer(0, 2), 0);
        x.receive(0, 3, REPLACE, 0, 8);
        x.tick(0);
        due("as they were when it acted", x.answer(0, 2), 81);
        x.fails(ASK, true);
        x.receive(0, 4, ASK, 0, 0);
        x.fails(ASK, true);
        x.tick(0);
        due("dead", x.answer(0, 4), 0);
    }

    private static void answerOfTheRefused() {
        MessageActs x = new MessageActs();
        x.receive(0, 1, NEW, 0, 7);
        x.receive(0, 2, NEW, 0, 7);
        due("by rule 1", x.answer(0, 2), -1);
        x.point(0);
        x.receive(0, 3, CHANGE, 0, 7);
        due("by rule 2", x.answer(0, 3), -2);
        x.receive(1, 1, CANCEL, 1, 7);
        x.receive(1, 2, CHANGE, 1, 7);
        due("it waits", x.answer(1, 2), 0);
        x.receive(0, 4, NEW, 1, 7);
        due("by rule 3, when woken", x.answer(1, 2), -3);
        for (int number = 1; number <= 13; number++) {
            x.receive(2, number, CHANGE, 9, 7);
        }
        due("the twelfth", x.answer(2, 12), 0);
        due("by rule 5", x.answer(2, 13), -5);
    }

    private static void answerOfAllOthersIs0() {
        MessageActs x = new MessageActs();
        x.receive(0, 1, NEW, 0, 7);
        x.receive(0, 2, REPLACE, 0, 8);
        x.receive(0, 3, CHANGE, 0, 9);
        x.receive(0, 4, CHANGE, 1, 9);
        x.fails(CHANGE, true);
        x.receive(0, 5, CHANGE, 0, 9);
        x.receive(0, 6, CANCEL, 0, 0);
        x.receive(0, 8, CHANGE, 0, 9);
        for (int number = 1; number <= 9; number++) {
            due("answer of " + number, x.answer(0, number), 0);
        }
        x.cut(0);
        due("lost", x.answer(0, 8), 0);
        x.tick(51);
        due("dead", x.answer(0, 4), 0);
        due("the last", x.answer(3, 24), 0);
    }

    private static void answerThrows() {
        MessageActs x = new MessageActs();
        for (int sender : WRONG_SENDERS) {
            dueIllegal("sender " + sender, () -> x.answer(sender, 1));
        }
        for (int number : WRONG_NUMBERS) {
            dueIllegal("number " + number, () -> x.answer(0, number));
        }
        due("the least", x.answer(0, 1), 0);
        due("the greatest", x.answer(3, 24), 0);
    }

    // Promise 5

    private static void pointFixesWhatIsOpen() {
        for (int subject = 0; subject < 16; subject++) {
            MessageActs x = new MessageActs();
            x.receive(0, 1, NEW, subject, 6);
            due("OPEN", x.point(subject), true);
            dueSubject("fixed", x, subject, FIXED, 6);
            due("it is no act", x.count(0), 1);
            due("another subject", x.look(15 - subject, 0), UNKNOWN);
        }
    }

    private static void pointOfNoneSuch() {
        MessageActs x = new MessageActs();
        for (int subject : WRONG_SUBJECTS) {
            due("point of " + subject, x.point(subject), false);
        }
    }

    private static void pointOfOneNotOpen() {
        MessageActs x = new MessageActs();
        due("UNKNOWN", x.point(0), false);
        dueSubject("UNKNOWN", x, 0, UNKNOWN, 0);
        x.receive(0, 1, NEW, 0, 6);
        x.point(0);
        due("FIXED", x.point(0), false);
        dueSubject("FIXED", x, 0, FIXED, 6);
        x.receive(0, 2, NEW, 1, 6);
        x.receive(0, 3, CANCEL, 1, 6);
        due("CANCELLED", x.point(1), false);
        dueSubject("CANCELLED", x, 1, CANCELLED, 6);
        x.receive(0, 4, NEW, 1, 5);
        due("OPEN again", x.point(1), true);
    }

    // Promise 6

    private static void failsIsToldOnceEach() {
        for (int function = NEW; function <= CANCEL; function++) {
            MessageActs x = new MessageActs();
            due("it is so: off", x.fails(function, false), false);
            due("on", x.fails(function, true), true);
            due("it is so: on", x.fails(function, true), false);
            due("off", x.fails(function, false), true);
            due("it is so: off", x.fails(function, false), false);
            due("on again", x.fails(function, true), true);
        }
    }

    private static void failsOfNoneSuch() {
        MessageActs x = new MessageActs();
        for (int function : WRONG_FUNCTIONS) {
            due("on " + function, x.fails(function, true), false);
            due("off " + function, x.fails(function, false), false);
        }
    }

    private static void toldNotToFail() {
        MessageActs x = new MessageActs();
        x.fails(NEW, true);
        x.fails(NEW, false);
        due("it acts", x.receive(0, 1, NEW, 0, 1), 1);
        x.fails(NEW, true);
        x.fails(NEW, true);
        due("told twice, it fails", x.receive(0, 2, NEW, 1, 1), 5);
        due("once", x.receive(0, 3, NEW, 2, 1), 1);
        x.tick(1);
        due("tried again", x.status(0, 2), ACTED);
    }

    // Promise 7

    private static void triedAgainInTheOrderOfFailing() {
        MessageActs x = new MessageActs();
        x.receive(0, 1, NEW, 0, 0);
        int[] senders = {2, 0, 3, 1};
        for (int sender : senders) {
            x.fails(REPLACE, true);
            due("fails", x.receive(sender, sender == 0 ? 2 : 1, REPLACE, 0, 10 + sender), 5);
        }
        due("none is dead", x.tick(3), 0);
        dueActs("in the order of failing", x, 1, 2001, 2, 3001, 1001);
        dueSubject("the last", x, 0, OPEN, 11);
    }

    private static void firstTriedAgainThenDead() {
        MessageActs x = new MessageActs();
        x.receive(0, 1, CHANGE, 0, 5);
        x.receive(0, 2, CHANGE, 1, 5);
        x.fails(NEW, true);
        x.receive(1, 1, NEW, 0, 1);
        x.fails(ASK, true);
        x.receive(1, 2, ASK, 0, 1);
        x.fails(ASK, true);
        due("one failed twice, one waits too long", x.tick(51), 2);
        due("woken before it waits too long", x.status(0, 1), ACTED);
        dueSubject("woken", x, 0, OPEN, 6);
        dueDeads("in this order", x, 1002, 2);
    }

    private static void tickTellsThoseDeadByIt() {
        MessageActs x = new MessageActs();
        due("none", x.tick(0), 0);
        for (int number = 1; number <= 12; number++) {
            x.receive(0, number, CHANGE, 0, 1);
        }
        due("none", x.tick(50), 0);
        due("twelve", x.tick(51), 12);
        due("none more", x.tick(52), 0);
        x.receive(1, 1, CHANGE, 0, 1);
        due("one more", x.tick(103), 1);
        due("in all", x.count(1), 13);
    }

    private static void tickThrows() {
        MessageActs x = new MessageActs();
        for (int time : new int[] {-1, 100001, Integer.MIN_VALUE, Integer.MAX_VALUE}) {
            dueIllegal("tick(" + time + ")", () -> x.tick(time));
        }
        x.tick(500);
        dueIllegal("one ahead of NOW", () -> x.tick(499));
        dueIllegal("the first time", () -> x.tick(0));
        due("NOW itself", x.tick(500), 0);
        due("the last time", x.tick(100000), 0);
        dueIllegal("one ahead of NOW", () -> x.tick(99999));
        dueIllegal("above", () -> x.tick(100001));
        due("the last time again", x.tick(100000), 0);
    }

    // Promise 8

    private static void skipTellsTheNumber() {
        MessageActs x = new MessageActs();
        x.receive(3, 1, ASK, 0, 0);
        x.receive(3, 24, ASK, 0, 0);
        x.tick(101);
        for (int number = 2; number < 24; number++) {
            due("skip", x.skip(3), number);
        }
    }

    private static void skipIsNoneWithoutGap() {
        MessageActs x = new MessageActs();
        due("nothing came", x.skip(0), NONE);
        x.tick(100000);
        due("nothing came", x.skip(0), NONE);
        x.receive(0, 2, NEW, 0, 0);
        due("it came just now", x.skip(0), NONE);
        due("the gap stays", x.of(0, 0), 1);
        due("held", x.status(0, 2), HELD);
    }

    private static void skipThrows() {
        MessageActs x = new MessageActs();
        for (int sender : WRONG_SENDERS) {
            dueIllegal("skip of " + sender, () -> x.skip(sender));
        }
        due("the least", x.skip(0), NONE);
        due("the greatest", x.skip(3), NONE);
    }

    // Promise 9

    private static void cutTellsHowMany() {
        MessageActs x = new MessageActs();
        due("none", x.cut(0), 0);
        x.receive(0, 24, NEW, 0, 0);
        x.receive(0, 23, ASK, 0, 0);
        due("one", x.cut(0), 1);
        due("none more", x.cut(0), 0);
        for (int number = 2; number <= 22; number++) {
            x.receive(0, number, NEW, 0, 0);
        }
        due("those since then", x.cut(0), 21);
        due("in all", x.of(0, 2), 22);
    }

    private static void cutThrows() {
        MessageActs x = new MessageActs();
        for (int sender : WRONG_SENDERS) {
            dueIllegal("cut of " + sender, () -> x.cut(sender));
        }
        due("the least", x.cut(0), 0);
        due("the greatest", x.cut(3), 0);
    }

    // Promise 10

    private static void replayTellsHowMany() {
        MessageActs x = new MessageActs();
        due("none", x.replay(3, 1), 0);
        x.receive(3, 2, NEW, 0, 0);
        x.receive(3, 24, NEW, 0, 0);
        due("none is lost", x.replay(3, 1), 0);
        x.cut(3);
        due("behind 3", x.replay(3, 3), 1);
        due("behind 3, again", x.replay(3, 3), 0);
        due("2", x.replay(3, 2), 1);
        due("held", x.of(3, 1), 2);
    }

    private static void replayThrows() {
        MessageActs x = new MessageActs();
        for (int sender : WRONG_SENDERS) {
            dueIllegal("replay of " + sender, () -> x.replay(sender, 1));
        }
        for (int number : WRONG_NUMBERS) {
            dueIllegal("replay from " + number, () -> x.replay(0, number));
        }
        due("the least", x.replay(0, 1), 0);
        due("the greatest", x.replay(3, 24), 0);
    }

    // Promise 11

    private static void lookCountsActs() {
        MessageActs x = new MessageActs();
        x.receive(0, 1, ASK, 0, 0);
        due("asking too", x.look(0, 2), 1);
        x.receive(0, 2, NEW, 0, 0);
        x.receive(0, 3, REPLACE, 0, 0);
        x.receive(0, 4, CHANGE, 0, 0);
        x.receive(0, 5, CANCEL, 0, 0);
        due("each function", x.look(0, 2), 5);
        x.receive(0, 6, CANCEL, 0, 0);
        due("not what is refused", x.look(0, 2), 5);
        x.fails(ASK, true);
        x.receive(0, 7, ASK, 0, 0);
        due("not what fails", x.look(0, 2), 5);
        x.receive(0, 9, NEW, 0, 0);
        due("not what is held", x.look(0, 2), 5);
        x.receive(1, 1, CHANGE, 1, 0);
        due("not what waits", x.look(1, 2), 0);
        x.tick(0);
        due("what is tried again", x.look(0, 2), 6);
    }

    private static void lookCountsAllActs() {
        MessageActs x = new MessageActs();
        for (int i = 0; i < 96; i++) {
            x.receive(i / 24, i % 24 + 1, ASK, 15, 0);
        }
        due("all there can be", x.look(15, 2), 96);
        due("of another", x.look(14, 2), 0);
    }

    private static void lookCountsThoseThatWait() {
        MessageActs x = new MessageActs();
        due("none", x.look(15, 3), 0);
        for (int number = 1; number <= 11; number++) {
            x.receive(0, number, CHANGE, 15, 0);
        }
        x.receive(1, 1, CHANGE, 14, 0);
        x.receive(1, 3, CHANGE, 13, 0);
        due("for it", x.look(15, 3), 11);
        due("for another", x.look(14, 3), 1);
        due("what is held does not", x.look(13, 3), 0);
        x.receive(2, 1, NEW, 15, 0);
        due("none any more", x.look(15, 3), 0);
        due("for another", x.look(14, 3), 1);
        x.tick(51);
        due("dead", x.look(14, 3), 0);
    }

    private static void lookThrows() {
        MessageActs x = new MessageActs();
        for (int subject : WRONG_SUBJECTS) {
            for (int what = 0; what < 4; what++) {
                int asked = what;
                dueIndex("subject " + subject, () -> x.look(subject, asked));
            }
        }
        for (int what : WRONG_WHATS_OF_FOUR) {
            dueIndex("what " + what, () -> x.look(0, what));
            dueIndex("what " + what, () -> x.look(15, what));
            dueIndex("both", () -> x.look(16, what));
        }
        due("the least", x.look(0, 0), 0);
        due("the greatest", x.look(15, 3), 0);
    }

    // Promises 12 and 13

    private static void actIsNoneWithout() {
        MessageActs x = new MessageActs();
        due("none yet", x.act(0), NONE);
        x.receive(3, 24, ASK, 0, 0);
        due("the first", x.act(0), 3024);
        due("the second", x.act(1), NONE);
        for (int i : new int[] {-1, 96, Integer.MIN_VALUE, Integer.MAX_VALUE}) {
            due("act(" + i + ")", x.act(i), NONE);
        }
    }

    private static void actTellsAllThereCanBe() {
        MessageActs x = new MessageActs();
        for (int i = 0; i < 96; i++) {
            x.receive(3 - i % 4, i / 4 + 1, ASK, 0, 0);
        }
        for (int i = 0; i < 96; i++) {
            due("act(" + i + ")", x.act(i), 1000 * (3 - i % 4) + i / 4 + 1);
        }
        due("act(96)", x.act(96), NONE);
    }

    private static void deadIsNoneWithout() {
        MessageActs x = new MessageActs();
        due("none yet", x.dead(0), NONE);
        x.receive(3, 1, CHANGE, 0, 0);
        due("it waits", x.dead(0), NONE);
        x.tick(51);
        due("the first", x.dead(0), 3001);
        due("the second", x.dead(1), NONE);
        for (int i : new int[] {-1, 96, Integer.MIN_VALUE, Integer.MAX_VALUE}) {
            due("dead(" + i + ")", x.dead(i), NONE);
        }
        due("it is no act", x.act(0), NONE);
    }

    private static void deadTellsAllThereCanBe() {
        MessageActs x = new MessageActs();
        for (int i = 0; i < 96; i++) {
            x.fails(ASK, true);
            x.receive(3 - i % 4, i / 4 + 1, ASK, 0, 0);
            x.fails(ASK, true);
            due("dead by it", x.tick(i), 1);
        }
        for (int i = 0; i < 96; i++) {
            due("dead(" + i + ")", x.dead(i), 1000 * (3 - i % 4) + i / 4 + 1);
        }
        due("dead(96)", x.dead(96), NONE);
    }

    // Promise 14

    private static void ofLeastGap() {
        MessageActs x = new MessageActs();
        for (int number = 1; number <= 24; number++) {
            due("the least gap", x.of(2, 0), number);
            x.receive(2, number, ASK, 0, 0);
        }
        due("25 without", x.of(2, 0), 25);
        due("another sender", x.of(1, 0), 1);
        MessageActs y = new MessageActs();
        y.receive(2, 24, ASK, 0, 0);
        due("the least of many", y.of(2, 0), 1);
    }

    private static void ofHeldAndLost() {
        MessageActs x = new MessageActs();
        for (int number = 2; number <= 24; number++) {
            due("held", x.of(1, 1), number - 2);
            x.receive(1, number, NEW, 0, 0);
        }
        due("held", x.of(1, 1), 23);
        due("lost", x.of(1, 2), 0);
        x.cut(1);
        due("held", x.of(1, 1), 0);
        due("lost", x.of(1, 2), 23);
        due("another sender", x.of(2, 2), 0);
        x.receive(1, 2, NEW, 0, 0);
        due("come anew: held", x.of(1, 1), 1);
        due("come anew: lost", x.of(1, 2), 22);
        x.replay(1, 1);
        due("replayed: held", x.of(1, 1), 23);
        due("replayed: lost", x.of(1, 2), 0);
        x.receive(1, 1, ASK, 0, 0);
        due("none is held", x.of(1, 1), 0);
    }

    private static void ofGreatest() {
        MessageActs x = new MessageActs();
        due("0 without", x.of(1, 3), 0);
        x.receive(2, 1, NEW, 0, 0);
        due("the first", x.of(2, 3), 1);
        due("of another sender", x.of(1, 3), 0);
        x.receive(1, 5, NEW, 0, 0);
        due("held", x.of(1, 3), 5);
        x.receive(1, 24, ASK, 0, 0);
        due("the last", x.of(1, 3), 24);
        x.receive(1, 1, NEW, 0, 0);
        due("not the latest", x.of(1, 3), 24);
        MessageActs y = new MessageActs();
        y.receive(1, 24, NEW, 0, 0);
        y.cut(1);
        due("lost", y.of(1, 3), 0);
        y.receive(1, 3, NEW, 0, 0);
        due("not the lost", y.of(1, 3), 3);
        y.replay(1, 1);
        due("replayed", y.of(1, 3), 24);
    }

    private static void ofAnotherIsNone() {
        MessageActs x = new MessageActs();
        for (int sender : WRONG_SENDERS) {
            for (int what = 0; what < 4; what++) {
                due("sender " + sender, x.of(sender, what), NONE);
            }
        }
        for (int what : WRONG_WHATS_OF_FOUR) {
            due("what " + what, x.of(0, what), NONE);
            due("what " + what, x.of(3, what), NONE);
            due("both", x.of(4, what), NONE);
        }
        due("the least", x.of(0, 0), 1);
        due("the greatest", x.of(3, 3), 0);
    }

    // Promise 15

    private static void countsAllThereCanBe() {
        MessageActs x = new MessageActs();
        for (int i = 0; i < 96; i++) {
            x.receive(i / 24, i % 24 + 1, ASK, 0, 0);
        }
        due("acts", x.count(0), 96);
        MessageActs y = new MessageActs();
        for (int i = 0; i < 12; i++) {
            due("wait", y.count(4), i);
            y.receive(0, i + 1, CHANGE, 0, 0);
        }
        due("wait", y.count(4), 12);
        y.receive(0, 13, CHANGE, 0, 0);
        due("no more", y.count(4), 12);
        y.tick(51);
        due("DEAD", y.count(1), 12);
        due("wait", y.count(4), 0);
    }

    private static void countsDoubles() {
        MessageActs x = new MessageActs();
        x.receive(0, 1, NEW, 0, 0);
        due("none", x.count(3), 0);
        for (int i = 1; i <= 100; i++) {
            x.receive(0, 1, NEW, 0, 0);
            due("doubles", x.count(3), i);
        }
        x.receive(0, 2, NEW, 0, 0);
        due("a refused one is none", x.count(3), 100);
        dueIllegal("no such value", () -> x.receive(0, 1, NEW, 0, 1001));
        due("what throws is none", x.count(3), 100);
    }

    private static void countsThoseToBeTriedAgain() {
        MessageActs x = new MessageActs();
        for (int number = 1; number <= 24; number++) {
            due("so far", x.count(5), number - 1);
            x.fails(ASK, true);
            x.receive(0, number, ASK, 0, 0);
        }
        due("all", x.count(5), 24);
        x.fails(ASK, true);
        due("one is dead", x.tick(0), 1);
        due("none any more", x.count(5), 0);
        due("acts", x.count(0), 23);
    }

    private static void countOfAnotherIsNone() {
        MessageActs x = new MessageActs();
        for (int what : WRONG_WHATS_OF_SIX) {
            due("what " + what, x.count(what), NONE);
        }
        due("the least", x.count(0), 0);
        due("the greatest", x.count(5), 0);
    }

    public static void main(String[] args) {
        promises1To4();
        promises5To10();
        promises11To15();
        end();
    }

    private static void promises1To4() {
        sentence("Promise 1", "Nothing came", PromiseEdges::nothingCame);
        sentence("Promise 1", "Nothing came: calls on it", PromiseEdges::aNewObjectTakesCalls);
        sentence("Promise 1", "NOW 0", PromiseEdges::nowIs0);
        sentence("Promise 1", "a new object, beside another", PromiseEdges::anotherObjectIsNew);
        sentence("Promise 2", "1 ACTED .. 5 to be TRIED AGAIN", PromiseEdges::receiveAnswers1To5);
        sentence("Promise 2", "REFUSED, by minus this rule", PromiseEdges::receiveAnswersMinusTheRule);
        sentence("Promise 2", "what comes of it", PromiseEdges::receiveAnswersOfTheMessageItself);
        sentence("Promise 2", "what comes of it: then", PromiseEdges::receiveAnswersWhatItComesToThen);
        sentence("Promise 2", "no such sender, number, function, subject or value",
                PromiseEdges::receiveThrowsForEachArgument);
        sentence("Promise 2", "no such value, of a double", PromiseEdges::receiveThrowsForADoubleToo);
        sentence("Promise 3", "STATUS of a message", PromiseEdges::statusOfEach);
        sentence("Promise 3", "NONE for a gap, or did not come yet", PromiseEdges::statusIsNoneWithoutMessage);
        sentence("Promise 3", "no such sender or number", PromiseEdges::statusThrows);
        sentence("Promise 4", "10 * VALUE and the state, as they were then", PromiseEdges::answerOfWhatAsked);
        sentence("Promise 4", "as they were then: held", PromiseEdges::answerOfWhatAskedAheadOfAGap);
        sentence("Promise 4", "one that ASKED and acted", PromiseEdges::answerOfWhatAskedAndFailed);
        sentence("Promise 4", "of one refused minus the rule", PromiseEdges::answerOfTheRefused);
        sentence("Promise 4", "0 of all others", PromiseEdges::answerOfAllOthersIs0);
        sentence("Promise 4", "IllegalArgumentException as status()", PromiseEdges::answerThrows);
    }

    private static void promises5To10() {
        sentence("Promise 5", "A subject that is OPEN is FIXED", PromiseEdges::pointFixesWhatIsOpen);
        sentence("Promise 5", "false if there is none such", PromiseEdges::pointOfNoneSuch);
        sentence("Promise 5", "false if it is not OPEN", PromiseEdges::pointOfOneNotOpen);
        sentence("Promise 6", "false if it is so", PromiseEdges::failsIsToldOnceEach);
        sentence("Promise 6", "false if there is none such", PromiseEdges::failsOfNoneSuch);
        sentence("Promise 6", "told to FAIL, or not", PromiseEdges::toldNotToFail);
        sentence("Promise 7", "in the order in which they failed", PromiseEdges::triedAgainInTheOrderOfFailing);
        sentence("Promise 7", "then what waits too long is DEAD", PromiseEdges::firstTriedAgainThenDead);
        sentence("Promise 7", "how many are DEAD by it", PromiseEdges::tickTellsThoseDeadByIt);
        sentence("Promise 7", "ahead of NOW or above 100000", PromiseEdges::tickThrows);
        sentence("Promise 8", "the number", PromiseEdges::skipTellsTheNumber);
        sentence("Promise 8", "NONE if there is none that may be", PromiseEdges::skipIsNoneWithoutGap);
        sentence("Promise 8", "no such sender", PromiseEdges::skipThrows);
        sentence("Promise 9", "how many are LOST", PromiseEdges::cutTellsHowMany);
        sentence("Promise 9", "no such sender", PromiseEdges::cutThrows);
        sentence("Promise 10", "how many came again", PromiseEdges::replayTellsHowMany);
        sentence("Promise 10", "no such sender or number", PromiseEdges::replayThrows);
    }

    private static void promises11To15() {
        sentence("Promise 11", "messages that acted on it (asking too)", PromiseEdges::lookCountsActs);
        sentence("Promise 11", "messages that acted on it: all", PromiseEdges::lookCountsAllActs);
        sentence("Promise 11", "messages that wait for it", PromiseEdges::lookCountsThoseThatWait);
        sentence("Promise 11", "no such subject or what", PromiseEdges::lookThrows);
        sentence("Promise 12", "NONE without", PromiseEdges::actIsNoneWithout);
        sentence("Promise 12", "the i-th act: all", PromiseEdges::actTellsAllThereCanBe);
        sentence("Promise 13", "NONE without", PromiseEdges::deadIsNoneWithout);
        sentence("Promise 13", "the i-th DEAD: all", PromiseEdges::deadTellsAllThereCanBe);
        sentence("Promise 14", "the least number that is a GAP (25 without)", PromiseEdges::ofLeastGap);
        sentence("Promise 14", "messages HELD, LOST", PromiseEdges::ofHeldAndLost);
        sentence("Promise 14", "the greatest (0 without)", PromiseEdges::ofGreatest);
        sentence("Promise 14", "NONE for another sender or what", PromiseEdges::ofAnotherIsNone);
        sentence("Promise 15", "acts, DEAD, messages that WAIT", PromiseEdges::countsAllThereCanBe);
        sentence("Promise 15", "doubles so far", PromiseEdges::countsDoubles);
        sentence("Promise 15", "those to be TRIED AGAIN", PromiseEdges::countsThoseToBeTriedAgain);
        sentence("Promise 15", "NONE for another what", PromiseEdges::countOfAnotherIsNone);
    }
}
