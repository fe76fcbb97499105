import java.util.function.Consumer;

/** Boundary cases of the "Terms", a test for each sentence: failing, doubles, skips, cuts, replays, refused calls. */
public final class FailAndLossEdges extends Checks {

    // Functions told to fail

    /** Subject 0 is OPEN with 6, 2 is FIXED with 7, 3 is CANCELLED with 8; and a function is told to fail. */
    private static MessageActs failing(int function) {
        MessageActs x = new MessageActs();
        x.receive(3, 1, NEW, 0, 6);
        x.receive(3, 2, NEW, 2, 7);
        x.point(2);
        x.receive(3, 3, NEW, 3, 8);
        x.receive(3, 4, CANCEL, 3, 0);
        due("told to fail", x.fails(function, true), true);
        return x;
    }

    private static int subjectThatTakes(int function) {
        return function == NEW ? 1 : 0;
    }

    private static void theNextActChangesNothing() {
        for (int function = NEW; function <= CANCEL; function++) {
            MessageActs x = failing(function);
            due("fails", x.receive(0, 1, function, subjectThatTakes(function), 9), 5);
            due("to be tried again", x.status(0, 1), TRIED_AGAIN);
            due("not answered", x.answer(0, 1), 0);
            dueSubject("fails", x, 0, OPEN, 6);
            dueSubject("fails", x, 1, UNKNOWN, 0);
            due("acted on 0", x.look(0, 2), 1);
            due("acted on 1", x.look(1, 2), 0);
            dueActs("fails", x, 3001, 3002, 3003, 3004);
            due("one is to be tried again", x.count(5), 1);
        }
    }

    private static void theFunctionFailsNoMore() {
        for (int function = NEW; function <= CANCEL; function++) {
            MessageActs x = failing(function);
            x.receive(0, 1, function, subjectThatTakes(function), 9);
            due("fails no more", x.fails(function, false), false);
            due("the next one acts", x.receive(0, 2, function, subjectThatTakes(function), 9), 1);
        }
    }

    private static void anotherFunctionDoesNotFail() {
        for (int failing = NEW; failing <= CANCEL; failing++) {
            MessageActs x = failing(failing);
            int[] order = {NEW, REPLACE, CHANGE, ASK, CANCEL};
            for (int i = 0; i < order.length; i++) {
                int got = x.receive(0, i + 1, order[i], subjectThatTakes(order[i]), 9);
                due("told to fail is " + failing + ", function " + order[i], got, order[i] == failing ? 5 : 1);
            }
        }
    }

    private static void aRefusalIsNoAct() {
        MessageActs x = failing(NEW);
        due("by rule 1", x.receive(0, 1, NEW, 0, 1), -1);
        due("still told to fail", x.fails(NEW, true), false);
        for (int function : new int[] {REPLACE, CHANGE, CANCEL}) {
            MessageActs y = failing(function);
            due("by rule 2", y.receive(0, 1, function, 2, 1), -2);
            due("by rule 3", y.receive(0, 2, function, 3, 1), -3);
            due("still told to fail", y.fails(function, true), false);
            due("fails then", y.receive(0, 3, function, 0, 1), 5);
        }
    }

    private static void aWaitIsNoAct() {
        for (int function : new int[] {REPLACE, CHANGE, CANCEL}) {
            MessageActs x = failing(function);
            for (int number = 1; number <= 12; number++) {
                due("waits", x.receive(0, number, function, 1, 1), 4);
            }
            due("by rule 5", x.receive(0, 13, function, 1, 1), -5);
            due("still told to fail", x.fails(function, true), false);
            due("NEW", x.receive(1, 1, NEW, 1, 0), 1);
            due("the first that is woken fails", x.status(0, 1), TRIED_AGAIN);
            due("the second does not", x.status(0, 2), ACTED);
        }
    }

    private static void heldAndDoublesAreNoActs() {
        MessageActs x = failing(CHANGE);
        due("held", x.receive(0, 2, CHANGE, 0, 1), 2);
        due("double", x.receive(0, 2, CHANGE, 0, 1), 3);
        due("still told to fail", x.fails(CHANGE, true), false);
        due("the gap closes", x.receive(0, 1, ASK, 0, 0), 1);
        due("fails in its turn", x.status(0, 2), TRIED_AGAIN);
        dueSubject("fails in its turn", x, 0, OPEN, 6);
    }

    private static void triedAtTheNextTimeThatIsTold() {
        for (int time : new int[] {0, 1, 100000}) {
            MessageActs x = failing(CHANGE);
            x.receive(0, 1, CHANGE, 0, 1);
            dueIllegal("no time", () -> x.tick(-1));
            dueIllegal("no time", () -> x.tick(100001));
            due("no time was told", x.status(0, 1), TRIED_AGAIN);
            due("none is dead", x.tick(time), 0);
            due("tried again", x.status(0, 1), ACTED);
            due("none is to be tried again", x.count(5), 0);
            dueSubject("tried again", x, 0, OPEN, 7);
            x.tick(100000);
            dueSubject("it acts once", x, 0, OPEN, 7);
        }
    }

    private static void whatFailsThenTooIsDead() {
        for (int function = NEW; function <= CANCEL; function++) {
            MessageActs x = failing(function);
            x.receive(0, 1, function, subjectThatTakes(function), 9);
            x.fails(function, true);
            due("dead by it", x.tick(5), 1);
            due("dead", x.status(0, 1), DEAD);
            dueDeads("failed twice", x, 1);
            due("none is to be tried again", x.count(5), 0);
            due("fails no more", x.fails(function, false), false);
            due("not tried a third time", x.tick(6), 0);
            due("dead", x.status(0, 1), DEAD);
            dueSubject("changed nothing", x, 0, OPEN, 6);
        }
    }

    private static void oneFailureEndsOneOfTwo() {
        MessageActs x = failing(CHANGE);
        x.receive(0, 1, CHANGE, 0, 1);
        x.fails(CHANGE, true);
        x.receive(0, 2, CHANGE, 0, 10);
        x.fails(CHANGE, true);
        due("one is dead", x.tick(1), 1);
        due("the first", x.status(0, 1), DEAD);
        due("the second", x.status(0, 2), ACTED);
        dueSubject("the second", x, 0, OPEN, 16);
    }

    private static void refusedThenByEachRule() {
        MessageActs x = failing(NEW);
        x.receive(0, 1, NEW, 1, 1);
        x.receive(1, 1, NEW, 1, 2);
        x.fails(CHANGE, true);
        x.receive(0, 2, CHANGE, 0, 1);
        x.receive(1, 2, CANCEL, 0, 0);
        x.fails(CANCEL, true);
        x.receive(0, 3, CANCEL, 1, 1);
        x.point(1);
        for (int function : new int[] {NEW, CHANGE, CANCEL}) {
            x.fails(function, true);
        }
        due("none is dead", x.tick(1), 0);
        due("by rule 1", x.answer(0, 1), -1);
        due("by rule 3", x.answer(0, 2), -3);
        due("by rule 2", x.answer(0, 3), -2);
        for (int i = 1; i <= 3; i++) {
            due("refused", x.status(0, i), REFUSED);
        }
        for (int function : new int[] {NEW, CHANGE, CANCEL}) {
            due("still told to fail", x.fails(function, true), false);
        }
        due("none is to be tried again", x.count(5), 0);
    }

    private static void whatFailsInATickIsTriedInTheNext() {
        MessageActs x = failing(NEW);
        x.receive(0, 1, CHANGE, 1, 5);
        x.receive(1, 1, NEW, 1, 1);
        x.fails(CHANGE, true);
        due("none is dead", x.tick(9), 0);
        due("woken, and failed", x.status(0, 1), TRIED_AGAIN);
        due("one is to be tried again", x.count(5), 1);
        x.tick(9);
        dueSubject("in the next", x, 1, OPEN, 6);
    }

    private static void allOfThemAreToBeTriedAgain() {
        MessageActs x = new MessageActs();
        for (int i = 0; i < 96; i++) {
            x.fails(ASK, true);
            due("fails", x.receive(i / 24, 24 - i % 24, ASK, i % 16, 0), 5);
        }
        due("all are to be tried again", x.count(5), 96);
        due("none is dead", x.tick(1), 0);
        for (int i = 0; i < 96; i++) {
            due("in the order in which they failed", x.act(i), 1000 * (i / 24) + 24 - i % 24);
        }
        due("none is to be tried again", x.count(5), 0);
    }

    // Doubles

    /** A message in every state, a skipped number, a lost one, and CANCEL told to fail, at time 101. */
    private static MessageActs rich() {
        MessageActs x = new MessageActs();
        x.receive(3, 5, NEW, 9, 1);
        x.fails(ASK, true);
        x.receive(1, 1, ASK, 9, 1);
        x.fails(ASK, true);
        x.tick(101);
        x.skip(3);
        x.receive(0, 1, NEW, 0, 5);
        x.receive(0, 2, NEW, 0, 6);
        x.receive(0, 3, CHANGE, 1, 7);
        x.fails(REPLACE, true);
        x.receive(0, 4, REPLACE, 0, 8);
        x.receive(2, 2, NEW, 2, 9);
        x.cut(2);
        x.receive(2, 3, NEW, 3, 9);
        x.fails(CANCEL, true);
        return x;
    }

    private static void richHasEachStatus() {
        MessageActs x = rich();
        due("HELD", x.status(2, 3), HELD);
        due("ACTED", x.status(0, 1), ACTED);
        due("REFUSED", x.status(0, 2), REFUSED);
        due("WAITS", x.status(0, 3), WAITS);
        due("TRIED AGAIN", x.status(0, 4), TRIED_AGAIN);
        due("DEAD", x.status(1, 1), DEAD);
        due("LOST", x.status(2, 2), LOST);
    }

    private static void whatCameActsOnNothingAgain() {
        int[][] came = {{2, 3}, {0, 1}, {0, 2}, {0, 3}, {0, 4}, {1, 1}};
        MessageActs x = rich();
        MessageActs y = rich();
        for (int[] message : came) {
            for (int function = NEW; function <= CANCEL; function++) {
                due("double", x.receive(message[0], message[1], function, function, 900), 3);
                y.receive(0, 1, NEW, 0, 5);
            }
        }
        due("doubles", x.count(3), 30);
        due("doubles act on nothing", seen(x), seen(y));
    }

    private static void whatIsLostIsNoDouble() {
        MessageActs x = new MessageActs();
        x.receive(0, 2, NEW, 2, 9);
        x.cut(0);
        due("comes anew", x.receive(0, 2, NEW, 3, 8), 2);
        due("no double", x.count(3), 0);
        due("a double now", x.receive(0, 2, NEW, 2, 9), 3);
        due("the gap closes", x.receive(0, 1, ASK, 0, 0), 1);
        dueSubject("as it was", x, 2, UNKNOWN, 0);
        dueSubject("as it came anew", x, 3, OPEN, 8);
    }

    private static void whatWasSkippedActsOnNothing() {
        MessageActs x = rich();
        MessageActs y = rich();
        for (int function = NEW; function <= CANCEL; function++) {
            due("skipped", x.receive(3, 1, function, function, 900), 3);
            y.receive(0, 1, NEW, 0, 5);
        }
        due("doubles", x.count(3), 5);
        due("the skipped act on nothing", seen(x), seen(y));
    }

    private static void whatWasLostAndSkippedActsOnNothing() {
        MessageActs x = new MessageActs();
        x.receive(0, 1, ASK, 0, 0);
        x.receive(0, 3, NEW, 0, 5);
        x.cut(0);
        x.receive(0, 2, ASK, 0, 0);
        x.receive(0, 4, ASK, 0, 0);
        x.tick(101);
        due("the lost one is the least gap", x.skip(0), 3);
        due("skipped", x.receive(0, 3, NEW, 0, 5), 3);
        dueSubject("skipped", x, 0, UNKNOWN, 0);
        due("not replayed", x.replay(0, 1), 0);
        due("gap", x.of(0, 0), 5);
    }

    // Skips

    private static void moreThan100AheadOfNow() {
        for (int start : new int[] {0, 7, 99899}) {
            MessageActs x = new MessageActs();
            x.tick(start);
            x.receive(0, 2, NEW, 0, 1);
            due("at once", x.skip(0), NONE);
            x.tick(start + 100);
            due("100", x.skip(0), NONE);
            due("100", x.of(0, 0), 1);
            due("100", x.status(0, 2), HELD);
            x.tick(start + 101);
            due("time alone skips nothing", x.status(0, 2), HELD);
            due("101", x.skip(0), 1);
            due("101", x.of(0, 0), 3);
            due("101", x.status(0, 2), ACTED);
        }
    }

    private static void theLeastIsSkippedAlone() {
        MessageActs x = new MessageActs();
        x.receive(1, 24, NEW, 0, 1);
        x.tick(101);
        for (int number = 1; number < 24; number++) {
            due("held", x.status(1, 24), HELD);
            due("skip", x.skip(1), number);
            due("the next gap", x.of(1, 0), number == 23 ? 25 : number + 1);
        }
        due("acted", x.status(1, 24), ACTED);
        due("no gap is left", x.skip(1), NONE);
    }

    private static void aLessOneThatCameIsNotEnough() {
        MessageActs x = new MessageActs();
        x.receive(0, 1, NEW, 0, 1);
        x.tick(100000);
        due("none greater came", x.skip(0), NONE);
        due("gap", x.of(0, 0), 2);
    }

    private static void someGreaterOneIsEnough() {
        MessageActs x = new MessageActs();
        x.receive(0, 3, NEW, 0, 1);
        x.tick(101);
        x.receive(0, 2, ASK, 0, 1);
        x.receive(0, 24, ASK, 0, 1);
        due("3 came early enough", x.skip(0), 1);
        due("4 has one behind it that came late", x.skip(0), NONE);
        x.tick(201);
        due("100", x.skip(0), NONE);
        x.tick(202);
        due("101", x.skip(0), 4);
    }

    private static void whateverCameOfTheGreaterOne() {
        MessageActs x = new MessageActs();
        x.receive(0, 24, ASK, 0, 1);
        x.fails(ASK, true);
        x.receive(1, 24, ASK, 0, 1);
        x.fails(ASK, true);
        x.tick(0);
        due("dead", x.status(1, 24), DEAD);
        x.tick(101);
        due("behind it is one that acted", x.skip(0), 1);
        due("behind it is a dead one", x.skip(1), 1);
        due("another sender has none", x.skip(2), NONE);
    }

    private static void noGapNoSkip() {
        MessageActs x = new MessageActs();
        for (int number = 1; number < 24; number++) {
            x.receive(0, number, ASK, 0, 1);
        }
        x.tick(1000);
        due("none is greater than 24", x.skip(0), NONE);
        x.receive(0, 24, ASK, 0, 1);
        x.tick(100000);
        due("no gap", x.skip(0), NONE);
        due("no gap", x.of(0, 0), 25);
    }

    private static void aDoubleDoesNotComeLater() {
        MessageActs x = new MessageActs();
        x.receive(0, 2, NEW, 0, 1);
        x.tick(100);
        x.receive(0, 2, NEW, 0, 1);
        x.tick(101);
        due("it came at 0", x.skip(0), 1);
    }

    private static void heldHaveTurnsWhenSkipped() {
        MessageActs x = new MessageActs();
        x.receive(0, 2, NEW, 0, 1);
        x.receive(0, 3, CHANGE, 0, 10);
        x.receive(0, 5, CHANGE, 0, 100);
        x.tick(101);
        due("skip", x.skip(0), 1);
        dueActs("up to the next gap", x, 2, 3);
        due("behind the next gap", x.status(0, 5), HELD);
        due("skip", x.skip(0), 4);
        dueActs("all", x, 2, 3, 5);
    }

    private static void whatIsLostDidNotCome() {
        MessageActs x = new MessageActs();
        x.receive(0, 2, NEW, 0, 1);
        x.cut(0);
        x.tick(101);
        due("what is lost did not come", x.skip(0), NONE);
        due("gap", x.of(0, 0), 1);
    }

    // Cuts

    private static void onlyWhatIsHeldIsLost() {
        MessageActs x = rich();
        due("sender 0", x.cut(0), 0);
        due("ACTED", x.status(0, 1), ACTED);
        due("REFUSED", x.status(0, 2), REFUSED);
        due("WAITS", x.status(0, 3), WAITS);
        due("TRIED AGAIN", x.status(0, 4), TRIED_AGAIN);
        due("sender 1", x.cut(1), 0);
        due("DEAD", x.status(1, 1), DEAD);
        due("sender 2", x.cut(2), 1);
        due("LOST with the other", x.of(2, 2), 2);
        due("another sender's", x.status(3, 5), HELD);
        due("sender 3", x.cut(3), 1);
        due("the skipped is no gap", x.of(3, 0), 2);
    }

    private static void nothingIsCut() {
        MessageActs x = new MessageActs();
        due("of a new object", x.cut(0), 0);
        x.receive(0, 2, NEW, 0, 0);
        due("one", x.cut(0), 1);
        due("not twice", x.cut(0), 0);
        due("lost", x.of(0, 2), 1);
    }

    private static void allThatCanBeHeldIsCut() {
        MessageActs x = new MessageActs();
        for (int number = 2; number <= 24; number++) {
            x.receive(0, number, NEW, 0, 0);
        }
        due("all", x.cut(0), 23);
        due("none is held", x.of(0, 1), 0);
        due("lost", x.of(0, 2), 23);
        due("none came", x.of(0, 3), 0);
        due("status", x.status(0, 2), LOST);
        due("status", x.status(0, 24), LOST);
    }

    private static void lostNumbersAreGapsAgain() {
        MessageActs x = new MessageActs();
        x.receive(0, 2, NEW, 0, 0);
        x.receive(0, 4, NEW, 0, 0);
        x.cut(0);
        x.receive(0, 1, ASK, 0, 0);
        due("2 is a gap", x.of(0, 0), 2);
        due("behind it is held", x.receive(0, 3, NEW, 1, 0), 2);
        due("2 comes anew", x.receive(0, 2, NEW, 2, 0), 1);
        due("4 is a gap", x.of(0, 0), 4);
        dueActs("each of them once", x, 1, 2, 3);
    }

    // Replays

    private static MessageActs allLost() {
        MessageActs x = new MessageActs();
        for (int number = 24; number >= 2; number--) {
            x.receive(0, number, number == 2 ? NEW : CHANGE, number == 2 ? 1 : 0, number);
        }
        x.cut(0);
        return x;
    }

    private static void replayedFromANumberOn() {
        MessageActs x = allLost();
        due("from 24", x.replay(0, 24), 1);
        due("24", x.status(0, 24), HELD);
        due("23", x.status(0, 23), LOST);
        due("from 13", x.replay(0, 13), 11);
        due("13", x.status(0, 13), HELD);
        due("12", x.status(0, 12), LOST);
        due("lost", x.of(0, 2), 11);
        due("from 1", x.replay(0, 1), 11);
        due("2", x.status(0, 2), HELD);
        due("lost", x.of(0, 2), 0);
        due("held", x.of(0, 1), 23);
        due("none is left", x.replay(0, 1), 0);
    }

    private static void replayedInOrder() {
        MessageActs x = allLost();
        x.receive(0, 1, NEW, 0, 1000);
        due("all", x.replay(0, 2), 23);
        for (int i = 0; i < 24; i++) {
            due("act(" + i + ")", x.act(i), i + 1);
        }
        dueSubject("as they were", x, 1, OPEN, 2);
        dueSubject("as they were", x, 0, OPEN, 1000 + 24 * 25 / 2 - 3);
        due("no gap", x.of(0, 0), 25);
        due("no double", x.count(3), 0);
    }

    private static void replayedUpToTheNextGap() {
        MessageActs x = new MessageActs();
        x.receive(0, 2, NEW, 0, 1);
        x.receive(0, 4, REPLACE, 0, 2);
        x.cut(0);
        x.receive(0, 1, ASK, 0, 0);
        due("both", x.replay(0, 1), 2);
        due("its turn", x.status(0, 2), ACTED);
        due("held again", x.status(0, 4), HELD);
        dueSubject("its turn", x, 0, OPEN, 1);
    }

    private static void skippedAreNotReplayed() {
        MessageActs x = new MessageActs();
        x.receive(0, 2, NEW, 0, 1);
        x.receive(0, 3, NEW, 1, 1);
        x.cut(0);
        x.receive(0, 1, ASK, 0, 1);
        x.receive(0, 24, ASK, 0, 1);
        x.tick(101);
        due("a lost one is skipped", x.skip(0), 2);
        due("the other comes again", x.replay(0, 1), 1);
        due("the skipped does not", x.status(0, 2), LOST);
        dueSubject("the skipped does not", x, 0, UNKNOWN, 0);
        dueSubject("the other", x, 1, OPEN, 1);
    }

    private static void replayedComeNow() {
        MessageActs x = new MessageActs();
        x.receive(0, 2, CHANGE, 0, 1);
        x.receive(1, 2, CHANGE, 0, 1);
        x.cut(0);
        x.cut(1);
        x.receive(1, 1, ASK, 0, 0);
        x.tick(60);
        due("held", x.replay(0, 1), 1);
        due("waits", x.replay(1, 1), 1);
        due("50 behind it", x.tick(110), 0);
        due("51 behind it", x.tick(111), 1);
        x.tick(160);
        due("100 behind it", x.skip(0), NONE);
        x.tick(161);
        due("101 behind it", x.skip(0), 1);
    }

    private static void replayedWhateverComesOfThem() {
        MessageActs x = new MessageActs();
        x.receive(0, 2, NEW, 0, 1);
        x.receive(0, 3, CHANGE, 1, 1);
        x.receive(0, 4, REPLACE, 0, 1);
        x.receive(0, 5, CHANGE, 0, 1);
        x.cut(0);
        x.receive(0, 1, NEW, 0, 8);
        x.fails(REPLACE, true);
        due("four came again", x.replay(0, 1), 4);
        due("refused", x.answer(0, 2), -1);
        due("waits", x.status(0, 3), WAITS);
        due("to be tried again", x.status(0, 4), TRIED_AGAIN);
        due("acted", x.status(0, 5), ACTED);
        dueSubject("one acted", x, 0, OPEN, 9);
    }

    private static void whatCameAnewIsNotReplayed() {
        MessageActs x = new MessageActs();
        x.receive(0, 2, NEW, 0, 1);
        x.receive(0, 3, NEW, 1, 1);
        x.cut(0);
        x.receive(0, 2, NEW, 2, 5);
        due("3 alone", x.replay(0, 1), 1);
        x.receive(0, 1, ASK, 0, 0);
        dueActs("each of them once", x, 1, 2, 3);
        dueSubject("as it was", x, 0, UNKNOWN, 0);
        dueSubject("as it came anew", x, 2, OPEN, 5);
    }

    private static void cutAndReplayedAgain() {
        MessageActs x = new MessageActs();
        x.receive(0, 2, NEW, 0, 4);
        for (int i = 0; i < 3; i++) {
            due("lost", x.cut(0), 1);
            due("comes again", x.replay(0, 2), 1);
            due("held", x.status(0, 2), HELD);
        }
        x.cut(0);
        x.receive(0, 1, ASK, 0, 0);
        due("lost is not held", x.status(0, 2), LOST);
        due("comes again", x.replay(0, 2), 1);
        dueSubject("acts", x, 0, OPEN, 4);
        due("what acted is not lost", x.cut(0), 0);
        due("nor replayed", x.replay(0, 1), 0);
        dueActs("once", x, 1, 2);
    }

    private static void anotherSendersAreNotReplayed() {
        MessageActs x = allLost();
        for (int sender = 1; sender < 4; sender++) {
            due("none is lost", x.replay(sender, 1), 0);
        }
        due("lost", x.of(0, 2), 23);
    }

    // Calls that throw or are refused

    private static void theOneToldFirst() {
        MessageActs x = new MessageActs();
        dueIllegal("receive", () -> x.receive(4, 25, 5, 16, 1001));
        dueIllegal("receive", () -> x.receive(-1, 0, -1, -1, -1001));
        dueIllegal("status", () -> x.status(4, 25));
        dueIllegal("answer", () -> x.answer(-1, 0));
        dueIllegal("replay", () -> x.replay(4, 0));
        dueIndex("look", () -> x.look(16, 4));
        dueIndex("look", () -> x.look(-1, -1));
    }

    /** What a refused call must leave as it is: two objects of one kind, and only one of them meets the call. */
    private static void dueUnchanged(String what, Consumer<MessageActs> calls) {
        MessageActs x = rich();
        MessageActs y = rich();
        calls.accept(x);
        due(what, seen(x), seen(y));
        x.tick(152);
        y.tick(152);
        due(what + ", and later", seenOfTheRest(x), seenOfTheRest(y));
    }

    private static void whatThrowsChangesNothing() {
        dueUnchanged("receive", x -> {
            dueIllegal("sender", () -> x.receive(4, 5, NEW, 5, 1));
            dueIllegal("number", () -> x.receive(0, 25, NEW, 5, 1));
            dueIllegal("function", () -> x.receive(0, 5, 5, 5, 1));
            dueIllegal("subject", () -> x.receive(0, 5, NEW, 16, 1));
            dueIllegal("value", () -> x.receive(0, 5, NEW, 5, 1001));
            dueIllegal("a double with no such value", () -> x.receive(0, 1, NEW, 5, -1001));
            dueIllegal("a skipped one with no such subject", () -> x.receive(3, 1, NEW, -1, 0));
        });
        dueUnchanged("tick", x -> {
            dueIllegal("over", () -> x.tick(100));
            dueIllegal("too late", () -> x.tick(100001));
        });
        dueUnchanged("skip, cut, replay", x -> {
            dueIllegal("skip", () -> x.skip(4));
            dueIllegal("cut", () -> x.cut(4));
            dueIllegal("replay", () -> x.replay(4, 1));
            dueIllegal("replay", () -> x.replay(2, 0));
            dueIllegal("replay", () -> x.replay(2, 25));
        });
        dueUnchanged("status, answer, look", x -> {
            dueIllegal("status", () -> x.status(0, 25));
            dueIllegal("answer", () -> x.answer(0, 0));
            dueIndex("look", () -> x.look(0, 4));
        });
    }

    private static void whatIsRefusedChangesNothing() {
        dueUnchanged("point", x -> {
            due("none such", x.point(16), false);
            due("UNKNOWN", x.point(1), false);
        });
        dueUnchanged("fails", x -> {
            due("none such", x.fails(5, true), false);
            due("it is so", x.fails(CANCEL, true), false);
            due("it is so", x.fails(NEW, false), false);
        });
        dueUnchanged("skip", x -> {
            due("came at 101", x.skip(2), NONE);
            due("none is greater", x.skip(0), NONE);
        });
        dueUnchanged("cut and replay", x -> {
            due("none is held", x.cut(0), 0);
            due("none is lost", x.replay(0, 1), 0);
            due("none is lost from there", x.replay(2, 3), 0);
        });
        dueUnchanged("of, count, act, dead", x -> {
            due("of", x.of(0, 4), NONE);
            due("count", x.count(6), NONE);
            due("act", x.act(-1), NONE);
            due("dead", x.dead(96), NONE);
        });
    }

    private static void aRefusedMessageChangesNothingElse() {
        int[][] refused = {{NEW, 0, -1}, {NEW, 2, -1}, {REPLACE, 2, -2}, {CHANGE, 2, -2}, {CANCEL, 2, -2},
            {REPLACE, 3, -3}, {CHANGE, 3, -3}, {CANCEL, 3, -3}, {REPLACE, 1, -5}, {CHANGE, 1, -5}, {CANCEL, 1, -5}};
        for (int[] row : refused) {
            MessageActs x = withTwelveWaiting();
            MessageActs y = withTwelveWaiting();
            due("refused", x.receive(0, 1, row[0], row[1], 9), row[2]);
            due("what it says: status", x.status(0, 1), REFUSED);
            due("what it says: answer", x.answer(0, 1), row[2]);
            due("nothing else", seenOfTheRest(x), seenOfTheRest(y));
        }
    }

    private static MessageActs withTwelveWaiting() {
        MessageActs x = failing(NEW);
        x.fails(REPLACE, true);
        for (int number = 1; number <= 12; number++) {
            x.receive(1, number, CHANGE, 1, 1);
        }
        return x;
    }

    private static void noneIsMinusOne() {
        due("NONE", MessageActs.NONE, -1);
        due("as it is answered", new MessageActs().act(0), MessageActs.NONE);
    }

    public static void main(String[] args) {
        sentencesOfFailing();
        sentencesOfDoublesAndSkips();
        sentencesOfCutsAndReplays();
        sentencesOfRefusedCalls();
        end();
    }

    private static void sentencesOfFailing() {
        String next = "the next act of it changes nothing";
        sentence("Terms", next, FailAndLossEdges::theNextActChangesNothing);
        sentence("Terms", next + ": of it alone", FailAndLossEdges::anotherFunctionDoesNotFail);
        sentence("Terms", "a turn that would not be refused", FailAndLossEdges::aRefusalIsNoAct);
        sentence("Terms", "a turn that would not wait", FailAndLossEdges::aWaitIsNoAct);
        sentence("Terms", next + ": its turn", FailAndLossEdges::heldAndDoublesAreNoActs);
        sentence("Terms", "the function fails no more", FailAndLossEdges::theFunctionFailsNoMore);
        String again = "TRIED AGAIN, at the next time that is told";
        sentence("Terms", again, FailAndLossEdges::triedAtTheNextTimeThatIsTold);
        sentence("Terms", again + ": not in the same", FailAndLossEdges::whatFailsInATickIsTriedInTheNext);
        sentence("Terms", again + ": all there can be", FailAndLossEdges::allOfThemAreToBeTriedAgain);
        sentence("Terms", "what fails then, too, is DEAD", FailAndLossEdges::whatFailsThenTooIsDead);
        sentence("Terms", "what fails then, too: one of two", FailAndLossEdges::oneFailureEndsOneOfTwo);
        sentence("Terms", "a refusal is as always", FailAndLossEdges::refusedThenByEachRule);
    }

    private static void sentencesOfDoublesAndSkips() {
        sentence("Terms", "STATUS 0 .. 6", FailAndLossEdges::richHasEachStatus);
        sentence("Terms", "a number that came already acts on nothing", FailAndLossEdges::whatCameActsOnNothingAgain);
        sentence("Terms", "(and is not LOST)", FailAndLossEdges::whatIsLostIsNoDouble);
        sentence("Terms", "so does one that was SKIPPED", FailAndLossEdges::whatWasSkippedActsOnNothing);
        sentence("Terms", "so does one that was SKIPPED: lost", FailAndLossEdges::whatWasLostAndSkippedActsOnNothing);
        sentence("Terms", "came more than 100 ahead of NOW", FailAndLossEdges::moreThan100AheadOfNow);
        sentence("Terms", "SKIPPED is the least number", FailAndLossEdges::theLeastIsSkippedAlone);
        sentence("Terms", "some greater one: no less", FailAndLossEdges::aLessOneThatCameIsNotEnough);
        sentence("Terms", "some greater one", FailAndLossEdges::someGreaterOneIsEnough);
        sentence("Terms", "some greater one: of its own", FailAndLossEdges::whateverCameOfTheGreaterOne);
        sentence("Terms", "some greater one: none", FailAndLossEdges::noGapNoSkip);
        sentence("Terms", "came more than 100 ahead: first", FailAndLossEdges::aDoubleDoesNotComeLater);
        sentence("Terms", "SKIPPED is a gap: it closes", FailAndLossEdges::heldHaveTurnsWhenSkipped);
        sentence("Terms", "some greater one: not LOST", FailAndLossEdges::whatIsLostDidNotCome);
    }

    private static void sentencesOfCutsAndReplays() {
        sentence("Terms", "what is HELD is LOST", FailAndLossEdges::onlyWhatIsHeldIsLost);
        sentence("Terms", "what is HELD is LOST: none", FailAndLossEdges::nothingIsCut);
        sentence("Terms", "what is HELD is LOST: all", FailAndLossEdges::allThatCanBeHeldIsCut);
        sentence("Terms", "its numbers are gaps again", FailAndLossEdges::lostNumbersAreGapsAgain);
        String replayed = "REPLAYED are its lost messages from a number on";
        sentence("Terms", replayed, FailAndLossEdges::replayedFromANumberOn);
        sentence("Terms", replayed + ": its own", FailAndLossEdges::anotherSendersAreNotReplayed);
        sentence("Terms", replayed + ": its lost", FailAndLossEdges::whatCameAnewIsNotReplayed);
        sentence("Terms", "but those with a number that was SKIPPED", FailAndLossEdges::skippedAreNotReplayed);
        sentence("Terms", "they come again, in order, as they were", FailAndLossEdges::replayedInOrder);
        sentence("Terms", "they come again: and again", FailAndLossEdges::cutAndReplayedAgain);
        sentence("Terms", "they come again: held", FailAndLossEdges::replayedUpToTheNextGap);
        sentence("Terms", "they come again: refused", FailAndLossEdges::replayedWhateverComesOfThem);
        sentence("Terms", "they come again (NOW)", FailAndLossEdges::replayedComeNow);
    }

    private static void sentencesOfRefusedCalls() {
        sentence("Terms", "of several exceptions the one told first", FailAndLossEdges::theOneToldFirst);
        sentence("Terms", "what throws changes nothing", FailAndLossEdges::whatThrowsChangesNothing);
        sentence("Terms", "what is refused changes nothing", FailAndLossEdges::whatIsRefusedChangesNothing);
        sentence("Terms", "but what it says", FailAndLossEdges::aRefusedMessageChangesNothingElse);
        sentence("Terms", "NONE = -1", FailAndLossEdges::noneIsMinusOne);
    }
}
