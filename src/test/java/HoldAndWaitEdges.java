/** Boundary cases of the "Terms", a test for each sentence: bounds, holding, turns, waiting. */
public final class HoldAndWaitEdges extends Checks {

    // The bounds of what there is

    private static void lastCallThatIsPromised() {
        MessageActs x = new MessageActs();
        x.receive(0, 1, NEW, 0, 5);
        for (int call = 2; call <= 511; call++) {
            x.receive(0, 1, CHANGE, 0, 1);
        }
        due("the 512th call", x.count(3), 510);
        MessageActs y = new MessageActs();
        for (int call = 1; call <= 511; call++) {
            y.status(3, 24);
        }
        due("the 512th call acts", y.receive(0, 1, NEW, 0, 5), 1);
    }

    private static void timeHasBounds() {
        MessageActs x = new MessageActs();
        dueIllegal("tick(-1)", () -> x.tick(-1));
        dueIllegal("tick(100001)", () -> x.tick(100001));
        due("tick(0)", x.tick(0), 0);
        due("tick(100000)", x.tick(100000), 0);
        due("NOW", x.count(2), 100000);
        dueIllegal("tick(100001)", () -> x.tick(100001));
    }

    private static void nowIsTheLatestTold() {
        MessageActs x = new MessageActs();
        due("NOW at first", x.count(2), 0);
        x.tick(7);
        due("NOW", x.count(2), 7);
        dueIllegal("tick(6)", () -> x.tick(6));
        dueIllegal("tick(100001)", () -> x.tick(100001));
        due("what throws is not told", x.count(2), 7);
        x.tick(7);
        due("the same", x.count(2), 7);
        x.tick(8);
        due("the next", x.count(2), 8);
        x.receive(0, 1, NEW, 0, 0);
        due("nothing but tick tells a time", x.count(2), 8);
    }

    private static void sendersHaveBounds() {
        for (int sender : new int[] {0, 3}) {
            MessageActs x = new MessageActs();
            due("receive", x.receive(sender, 1, NEW, 0, 0), 1);
            due("status", x.status(sender, 1), ACTED);
            due("answer", x.answer(sender, 1), 0);
            due("skip", x.skip(sender), NONE);
            due("cut", x.cut(sender), 0);
            due("replay", x.replay(sender, 1), 0);
            due("of", x.of(sender, 0), 2);
            due("act", x.act(0), 1000 * sender + 1);
        }
        for (int sender : WRONG_SENDERS) {
            MessageActs x = new MessageActs();
            dueIllegal("receive of " + sender, () -> x.receive(sender, 1, NEW, 0, 0));
            dueIllegal("status of " + sender, () -> x.status(sender, 1));
            dueIllegal("answer of " + sender, () -> x.answer(sender, 1));
            dueIllegal("skip of " + sender, () -> x.skip(sender));
            dueIllegal("cut of " + sender, () -> x.cut(sender));
            dueIllegal("replay of " + sender, () -> x.replay(sender, 1));
            due("of " + sender, x.of(sender, 0), NONE);
        }
    }

    private static void subjectsHaveBounds() {
        for (int subject : new int[] {0, 15}) {
            MessageActs x = new MessageActs();
            due("receive", x.receive(0, 1, NEW, subject, 9), 1);
            dueSubject("receive", x, subject, OPEN, 9);
            due("point", x.point(subject), true);
        }
        for (int subject : WRONG_SUBJECTS) {
            MessageActs x = new MessageActs();
            dueIllegal("receive for " + subject, () -> x.receive(0, 1, NEW, subject, 9));
            due("point of " + subject, x.point(subject), false);
            dueIndex("look at " + subject, () -> x.look(subject, 0));
        }
    }

    private static void numbersHaveBounds() {
        MessageActs x = new MessageActs();
        due("24", x.receive(0, 24, NEW, 0, 0), 2);
        due("1", x.receive(0, 1, NEW, 0, 0), 1);
        due("status of 24", x.status(0, 24), HELD);
        due("status of 1", x.status(0, 1), ACTED);
        due("answer of 24", x.answer(0, 24), 0);
        due("answer of 1", x.answer(0, 1), 0);
        due("replay from 24", x.replay(0, 24), 0);
        due("replay from 1", x.replay(0, 1), 0);
        for (int number : WRONG_NUMBERS) {
            dueIllegal("receive of " + number, () -> x.receive(0, number, NEW, 0, 0));
            dueIllegal("status of " + number, () -> x.status(0, number));
            dueIllegal("answer of " + number, () -> x.answer(0, number));
            dueIllegal("replay from " + number, () -> x.replay(0, number));
        }
    }

    private static void functionsHaveBounds() {
        MessageActs x = new MessageActs();
        for (int function : WRONG_FUNCTIONS) {
            dueIllegal("receive of " + function, () -> x.receive(0, 1, function, 0, 0));
            due("fails " + function, x.fails(function, true), false);
        }
        due("0 is NEW", x.receive(0, 1, 0, 0, 5), 1);
        dueSubject("0 is NEW", x, 0, OPEN, 5);
        due("1 is REPLACE", x.receive(0, 2, 1, 0, 7), 1);
        dueSubject("1 is REPLACE", x, 0, OPEN, 7);
        due("2 is CHANGE", x.receive(0, 3, 2, 0, 4), 1);
        dueSubject("2 is CHANGE", x, 0, OPEN, 11);
        due("3 is ASK", x.receive(0, 4, 3, 0, 4), 1);
        due("3 is ASK", x.answer(0, 4), 111);
        due("4 is CANCEL", x.receive(0, 5, 4, 0, 4), 1);
        dueSubject("4 is CANCEL", x, 0, CANCELLED, 11);
    }

    private static void valuesHaveBounds() {
        for (int function = NEW; function <= CANCEL; function++) {
            int told = function;
            for (int value : WRONG_VALUES) {
                MessageActs x = new MessageActs();
                x.receive(0, 1, NEW, 0, 0);
                dueIllegal("receive with " + value, () -> x.receive(0, 2, told, 0, value));
                due("did not come", x.status(0, 2), NONE);
            }
            for (int value : new int[] {-1000, 1000}) {
                MessageActs x = new MessageActs();
                due("receive with " + value, x.receive(0, 2, told, told == NEW ? 1 : 0, value), told == ASK ? 1 : 2);
                x.receive(0, 1, NEW, 0, 0);
                due("acted with " + value, x.status(0, 2), ACTED);
            }
        }
    }

    private static void subjectsAtFirst() {
        MessageActs x = new MessageActs();
        for (int subject = 0; subject < 16; subject++) {
            dueSubject("at first", x, subject, UNKNOWN, 0);
        }
    }

    private static void subjectsHaveFourStates() {
        MessageActs x = new MessageActs();
        x.receive(0, 1, NEW, 1, 0);
        x.receive(0, 2, NEW, 2, 0);
        x.receive(0, 3, NEW, 3, 0);
        x.point(2);
        x.receive(0, 4, CANCEL, 3, 0);
        for (int state = UNKNOWN; state <= CANCELLED; state++) {
            due("state", x.look(state, 0), state);
        }
    }

    // Held, and gaps

    private static void eachLessGapHolds() {
        for (int gap = 1; gap < 24; gap++) {
            MessageActs x = new MessageActs();
            for (int number = 1; number < 24; number++) {
                if (number != gap) {
                    x.receive(2, number, ASK, 0, 0);
                }
            }
            due("24 behind gap " + gap, x.receive(2, 24, NEW, 0, 0), 2);
            due("24 behind gap " + gap, x.status(2, 24), HELD);
            due("gap " + gap, x.receive(2, gap, ASK, 0, 0), 1);
            due("24 without gap", x.status(2, 24), ACTED);
        }
    }

    private static void noGreaterGapHolds() {
        MessageActs x = new MessageActs();
        for (int number = 1; number <= 24; number++) {
            due("turn at once of " + number, x.receive(3, number, number == 1 ? NEW : CHANGE, 0, 1), 1);
            due("acted at once", x.count(0), number);
        }
    }

    private static void theFirstNumberIsNeverHeld() {
        for (int sender = 0; sender < 4; sender++) {
            MessageActs x = new MessageActs();
            due("1 of " + sender, x.receive(sender, 1, NEW, 0, 0), 1);
        }
    }

    private static void anotherSendersGapHoldsNone() {
        MessageActs x = new MessageActs();
        due("behind a gap", x.receive(1, 2, NEW, 0, 0), 2);
        due("another sender", x.receive(0, 1, NEW, 1, 0), 1);
        due("another sender", x.receive(0, 2, NEW, 2, 0), 1);
        due("still held", x.status(1, 2), HELD);
    }

    private static void whatCameIsNoGapWhateverCameOfIt() {
        MessageActs x = new MessageActs();
        x.receive(0, 1, NEW, 0, 0);
        due("behind one that acted", x.receive(0, 2, NEW, 0, 0), -1);
        due("behind one refused", x.receive(0, 3, CHANGE, 9, 0), 4);
        x.fails(CHANGE, true);
        due("behind one that waits", x.receive(0, 4, CHANGE, 0, 0), 5);
        due("behind one to be tried again", x.receive(0, 5, ASK, 0, 0), 1);
        x.fails(CHANGE, true);
        x.tick(51);
        due("dead by waiting", x.status(0, 3), DEAD);
        due("dead by failing", x.status(0, 4), DEAD);
        due("behind the dead", x.receive(0, 6, CANCEL, 0, 0), 1);
        due("gap", x.of(0, 0), 7);
    }

    private static void aSkippedNumberHoldsNone() {
        MessageActs x = new MessageActs();
        x.receive(0, 2, NEW, 0, 0);
        x.tick(101);
        x.skip(0);
        due("held by the skipped", x.status(0, 2), ACTED);
        due("behind the skipped", x.receive(0, 3, CHANGE, 0, 0), 1);
        due("behind the skipped and a gap", x.receive(0, 5, CHANGE, 0, 0), 2);
    }

    private static void aLostNumberHolds() {
        MessageActs x = new MessageActs();
        x.receive(0, 2, NEW, 0, 0);
        x.cut(0);
        x.receive(0, 1, ASK, 0, 0);
        due("behind the lost", x.receive(0, 3, NEW, 0, 0), 2);
        due("held", x.status(0, 3), HELD);
    }

    private static void whatAsksIsNeverHeld() {
        MessageActs x = new MessageActs();
        for (int number = 24; number > 1; number--) {
            due("ASK " + number, x.receive(0, number, ASK, 0, 0), 1);
        }
        due("the gap is a gap", x.of(0, 0), 1);
        MessageActs y = new MessageActs();
        y.receive(0, 3, CHANGE, 0, 0);
        due("ASK 2", y.receive(0, 2, ASK, 0, 0), 1);
        due("what does not ask is held", y.status(0, 3), HELD);
        y.fails(ASK, true);
        due("fails behind the gap", y.receive(0, 5, ASK, 0, 0), 5);
        y.tick(0);
        due("tried again behind the gap", y.status(0, 5), ACTED);
        due("cut loses none that asked", y.cut(0), 1);
    }

    private static void heldHaveTurnsInOrderOfNumbers() {
        MessageActs x = new MessageActs();
        for (int number = 24; number > 1; number--) {
            x.receive(1, number, number == 2 ? NEW : REPLACE, 4, number);
        }
        due("all are held", x.of(1, 1), 23);
        due("the gap closes", x.receive(1, 1, NEW, 5, 0), 1);
        for (int i = 0; i < 24; i++) {
            due("act(" + i + ")", x.act(i), 1001 + i);
        }
        dueSubject("the greatest was the last", x, 4, OPEN, 24);
        due("none is held", x.of(1, 1), 0);
    }

    private static void upToTheNextGap() {
        MessageActs x = new MessageActs();
        x.receive(0, 2, ASK, 0, 0);
        x.receive(0, 3, NEW, 0, 1);
        x.receive(0, 5, CHANGE, 0, 10);
        x.receive(0, 24, CHANGE, 0, 100);
        x.receive(0, 1, ASK, 0, 0);
        due("ahead of the next gap", x.status(0, 3), ACTED);
        due("behind the next gap", x.status(0, 5), HELD);
        x.receive(0, 4, ASK, 0, 0);
        due("ahead of the next gap", x.status(0, 5), ACTED);
        due("behind the next gap", x.status(0, 24), HELD);
        for (int number = 6; number < 23; number++) {
            x.receive(0, number, ASK, 0, 0);
        }
        due("behind the last gap", x.status(0, 24), HELD);
        x.receive(0, 23, ASK, 0, 0);
        due("no gap is left", x.status(0, 24), ACTED);
        dueSubject("all", x, 0, OPEN, 111);
    }

    private static void aGapBehindAGapFreesNone() {
        MessageActs x = new MessageActs();
        x.receive(0, 2, NEW, 0, 0);
        x.receive(0, 4, NEW, 1, 0);
        due("3 is held itself", x.receive(0, 3, NEW, 2, 0), 2);
        due("held", x.of(0, 1), 3);
        due("no act", x.count(0), 0);
    }

    private static void aGapWithNoneBehindItCloses() {
        MessageActs x = new MessageActs();
        due("1", x.receive(0, 1, NEW, 0, 0), 1);
        due("one act", x.count(0), 1);
        due("24 is held", x.receive(0, 24, CHANGE, 0, 0), 2);
        due("2", x.receive(0, 2, CHANGE, 0, 0), 1);
        due("two acts", x.count(0), 2);
    }

    private static void aGapClosesByReplayToo() {
        MessageActs x = new MessageActs();
        x.receive(0, 1, NEW, 0, 1);
        x.receive(0, 3, REPLACE, 0, 5);
        x.cut(0);
        x.receive(0, 2, CHANGE, 0, 1);
        x.receive(0, 4, CHANGE, 0, 2);
        due("held by the lost", x.status(0, 4), HELD);
        due("replay", x.replay(0, 3), 1);
        dueSubject("3 and 4", x, 0, OPEN, 7);
        dueActs("3 and 4", x, 1, 2, 3, 4);
    }

    // Turns

    private static void newInEachState() {
        MessageActs x = new MessageActs();
        due("UNKNOWN", x.receive(0, 1, NEW, 0, 1000), 1);
        dueSubject("UNKNOWN", x, 0, OPEN, 1000);
        due("OPEN", x.receive(0, 2, NEW, 0, -1000), -1);
        dueSubject("OPEN", x, 0, OPEN, 1000);
        x.receive(0, 3, CANCEL, 0, 0);
        due("CANCELLED", x.receive(0, 4, NEW, 0, -1000), 1);
        dueSubject("CANCELLED", x, 0, OPEN, -1000);
        x.point(0);
        due("FIXED", x.receive(0, 5, NEW, 0, 3), -1);
        dueSubject("FIXED", x, 0, FIXED, -1000);
    }

    private static void openTakesAllThree() {
        MessageActs x = new MessageActs();
        x.receive(0, 1, NEW, 0, 3);
        due("REPLACE", x.receive(0, 2, REPLACE, 0, -1000), 1);
        dueSubject("REPLACE", x, 0, OPEN, -1000);
        due("CHANGE", x.receive(0, 3, CHANGE, 0, -1000), 1);
        dueSubject("below -1000", x, 0, OPEN, -2000);
        due("REPLACE", x.receive(0, 4, REPLACE, 0, 1000), 1);
        due("CHANGE", x.receive(0, 5, CHANGE, 0, 1000), 1);
        dueSubject("above 1000", x, 0, OPEN, 2000);
        due("CHANGE by nothing", x.receive(0, 6, CHANGE, 0, 0), 1);
        due("CANCEL", x.receive(0, 7, CANCEL, 0, 5), 1);
        dueSubject("CANCEL", x, 0, CANCELLED, 2000);
    }

    /** 96 messages cannot reach a million, so what they can reach must never be refused by rule 4. */
    private static void addedUpAsFarAsMessagesGo() {
        for (int v : new int[] {-1000, 1000}) {
            MessageActs x = new MessageActs();
            for (int i = 0; i < 95; i++) {
                due("added", x.receive(i / 24, i % 24 + 1, i == 0 ? NEW : CHANGE, 0, v), 1);
            }
            dueSubject("95 values", x, 0, OPEN, 95 * v);
            due("asked", x.receive(3, 24, ASK, 0, 0), 1);
            due("ten times the value and the state", x.answer(3, 24), 950 * v + 1);
        }
    }

    private static void fixedRefusesAllThree() {
        for (int function : new int[] {REPLACE, CHANGE, CANCEL}) {
            MessageActs x = new MessageActs();
            x.receive(0, 1, NEW, 0, 3);
            x.point(0);
            due("FIXED", x.receive(0, 2, function, 0, 4), -2);
            due("FIXED", x.status(0, 2), REFUSED);
            dueSubject("FIXED", x, 0, FIXED, 3);
        }
    }

    private static void cancelledRefusesAllThree() {
        for (int function : new int[] {REPLACE, CHANGE, CANCEL}) {
            MessageActs x = new MessageActs();
            x.receive(0, 1, NEW, 0, 3);
            x.receive(0, 2, CANCEL, 0, 0);
            due("CANCELLED", x.receive(0, 3, function, 0, 4), -3);
            due("CANCELLED", x.status(0, 3), REFUSED);
            dueSubject("CANCELLED", x, 0, CANCELLED, 3);
        }
    }

    private static void unknownLetsAllThreeWait() {
        for (int function : new int[] {REPLACE, CHANGE, CANCEL}) {
            MessageActs x = new MessageActs();
            due("UNKNOWN", x.receive(0, 1, function, 0, 4), 4);
            due("UNKNOWN", x.status(0, 1), WAITS);
            dueSubject("UNKNOWN", x, 0, UNKNOWN, 0);
            due("waits for it", x.look(0, 3), 1);
        }
    }

    private static void askInEachState() {
        MessageActs x = new MessageActs();
        x.receive(0, 1, NEW, 1, 4);
        x.receive(0, 2, NEW, 2, 5);
        x.receive(0, 3, NEW, 3, 6);
        x.point(2);
        x.receive(0, 4, CANCEL, 3, 0);
        int[] values = {0, 4, 5, 6};
        for (int state = UNKNOWN; state <= CANCELLED; state++) {
            int acts = x.look(state, 2);
            due("ASK acts", x.receive(1, state + 1, ASK, state, 1000), 1);
            due("ASK acted", x.status(1, state + 1), ACTED);
            dueSubject("ASK changes nothing", x, state, state, values[state]);
            due("ASK is an act", x.look(state, 2), acts + 1);
        }
    }

    // Twelve that wait

    /** Twelve that wait: of sender 0, by three functions, for subjects 1 to 4. */
    private static MessageActs twelve() {
        MessageActs x = new MessageActs();
        int[] functions = {REPLACE, CHANGE, CANCEL};
        for (int number = 1; number <= 12; number++) {
            due("waits", x.receive(0, number, functions[number % 3], 1 + number % 4, 1), 4);
        }
        return x;
    }

    private static void theThirteenthIsRefused() {
        for (int function : new int[] {REPLACE, CHANGE, CANCEL}) {
            MessageActs x = twelve();
            due("twelve wait", x.count(4), 12);
            due("for a subject waited for", x.receive(0, 13, function, 1, 1), -5);
            due("for another subject", x.receive(1, 1, function, 9, 1), -5);
            due("refused", x.status(1, 1), REFUSED);
            due("refused", x.answer(1, 1), -5);
            due("twelve wait", x.count(4), 12);
            due("none waits for it", x.look(9, 3), 0);
        }
    }

    private static void refusedByRule5IsNotWoken() {
        MessageActs x = twelve();
        x.receive(0, 13, REPLACE, 9, 50);
        due("opens", x.receive(1, 1, NEW, 9, 7), 1);
        dueSubject("what was refused does not act", x, 9, OPEN, 7);
        due("refused", x.status(0, 13), REFUSED);
    }

    private static void fullMattersToThoseThatWouldWaitAlone() {
        MessageActs x = twelve();
        due("NEW", x.receive(1, 1, NEW, 10, 1), 1);
        due("REPLACE of OPEN", x.receive(1, 2, REPLACE, 10, 2), 1);
        due("ASK of UNKNOWN", x.receive(1, 3, ASK, 1, 2), 1);
        x.point(10);
        due("REPLACE of FIXED", x.receive(1, 4, REPLACE, 10, 2), -2);
        due("NEW", x.receive(1, 5, NEW, 11, 1), 1);
        due("CANCEL of OPEN", x.receive(1, 6, CANCEL, 11, 1), 1);
        due("CANCEL of CANCELLED", x.receive(1, 7, CANCEL, 11, 1), -3);
    }

    private static void aPlaceIsFreeWhenOneIsWoken() {
        MessageActs x = twelve();
        x.receive(1, 1, NEW, 1, 1);
        due("three were woken", x.count(4), 9);
        for (int number = 2; number <= 4; number++) {
            due("a free place", x.receive(1, number, CHANGE, 9, 1), 4);
        }
        due("full again", x.receive(1, 5, CHANGE, 9, 1), -5);
    }

    private static void aPlaceIsFreeWhenOneIsDead() {
        MessageActs x = twelve();
        due("50", x.tick(50), 0);
        due("full", x.receive(1, 1, CHANGE, 9, 1), -5);
        due("51: all twelve", x.tick(51), 12);
        for (int number = 2; number <= 13; number++) {
            due("a free place", x.receive(1, number, CHANGE, 9, 1), 4);
        }
        due("full again", x.receive(1, 14, CHANGE, 9, 1), -5);
    }

    private static void whatIsHeldDoesNotWaitYet() {
        MessageActs x = new MessageActs();
        for (int number = 2; number <= 15; number++) {
            due("held", x.receive(0, number, CHANGE, 3, 1), 2);
        }
        due("none waits", x.count(4), 0);
        due("the gap closes", x.receive(0, 1, ASK, 0, 0), 1);
        due("the twelfth", x.status(0, 13), WAITS);
        due("the thirteenth", x.status(0, 14), REFUSED);
        due("the thirteenth", x.answer(0, 14), -5);
        due("the fourteenth", x.answer(0, 15), -5);
        due("twelve wait", x.count(4), 12);
    }

    // Waking

    private static void wokenAsSoonAsKnown() {
        MessageActs x = new MessageActs();
        x.receive(0, 1, REPLACE, 0, 40);
        x.receive(1, 2, CHANGE, 0, 5);
        due("held NEW", x.receive(2, 2, NEW, 0, 1), 2);
        due("what is held makes nothing known", x.status(0, 1), WAITS);
        x.fails(NEW, true);
        due("failing NEW", x.receive(3, 1, NEW, 0, 1), 5);
        due("what fails makes nothing known", x.status(0, 1), WAITS);
        due("another subject's NEW", x.receive(3, 2, NEW, 1, 1), 1);
        due("for another subject", x.status(0, 1), WAITS);
        due("point of UNKNOWN", x.point(0), false);
        due("NEW", x.receive(1, 1, NEW, 0, 1), 1);
        due("in the same call", x.status(0, 1), ACTED);
        dueSubject("ahead of what is held", x, 0, OPEN, 45);
        due("none waits", x.look(0, 3), 0);
    }

    private static void wokenInTheOrderOfWaiting() {
        MessageActs x = new MessageActs();
        x.receive(0, 2, REPLACE, 0, 40);
        x.receive(3, 1, REPLACE, 0, 30);
        x.receive(1, 1, REPLACE, 0, 10);
        x.receive(0, 1, ASK, 0, 0);
        x.receive(2, 1, REPLACE, 0, 20);
        due("NEW", x.receive(1, 2, NEW, 0, 1), 1);
        dueActs("by when they came to wait", x, 1, 1002, 3001, 1001, 2, 2001);
        dueSubject("the last one's value", x, 0, OPEN, 20);
    }

    private static void allTwelveAreWoken() {
        MessageActs x = new MessageActs();
        for (int number = 1; number <= 12; number++) {
            x.receive(0, number, CHANGE, 15, number);
        }
        due("all wait for one", x.look(15, 3), 12);
        due("NEW", x.receive(1, 1, NEW, 15, 100), 1);
        due("none waits", x.count(4), 0);
        dueSubject("all had their turns", x, 15, OPEN, 178);
        dueActs("in order", x, 1001, 1, 2, 3, 4, 5, 6, 7, 8, 9, 10, 11, 12);
    }

    private static void wokenMayBeRefused() {
        MessageActs x = new MessageActs();
        x.receive(0, 1, CANCEL, 0, 0);
        x.receive(0, 2, REPLACE, 0, 8);
        due("NEW", x.receive(1, 1, NEW, 0, 3), 1);
        due("by rule 3", x.answer(0, 2), -3);
        dueSubject("cancelled by the first", x, 0, CANCELLED, 3);
        due("none waits", x.count(4), 0);
    }

    private static void wokenByOneThatIsTriedAgain() {
        MessageActs x = new MessageActs();
        x.receive(0, 1, CHANGE, 0, 5);
        x.fails(NEW, true);
        x.receive(1, 1, NEW, 0, 3);
        due("none is dead", x.tick(1), 0);
        dueSubject("woken", x, 0, OPEN, 8);
        dueActs("woken", x, 1001, 1);
    }

    private static void fiftyIsNotTooLong() {
        for (int start : new int[] {0, 7, 99949}) {
            MessageActs x = new MessageActs();
            x.tick(start);
            x.receive(0, 1, CHANGE, 0, 1);
            due("50", x.tick(start + 50), 0);
            due("50", x.status(0, 1), WAITS);
            due("50 again", x.tick(start + 50), 0);
            due("51", x.tick(start + 51), 1);
            due("51", x.status(0, 1), DEAD);
            due("only once", x.tick(start + 51), 0);
            dueDeads("51", x, 1);
        }
    }

    private static void deadAtTheFirstTimeTold() {
        MessageActs x = new MessageActs();
        x.receive(0, 1, CHANGE, 0, 1);
        due("the last time at once", x.tick(100000), 1);
        dueDeads("the last time", x, 1);
        due("none waits", x.count(4), 0);
        due("none waits for it", x.look(0, 3), 0);
    }

    private static void wokenAt50IsNotDead() {
        MessageActs x = new MessageActs();
        x.receive(0, 1, CHANGE, 0, 1);
        x.tick(50);
        due("NEW", x.receive(1, 1, NEW, 0, 3), 1);
        due("51", x.tick(51), 0);
        due("acted", x.status(0, 1), ACTED);
        dueDeads("none", x);
    }

    private static void theDeadAreNotWoken() {
        MessageActs x = new MessageActs();
        x.receive(0, 1, REPLACE, 0, 9);
        x.tick(51);
        due("NEW", x.receive(1, 1, NEW, 0, 3), 1);
        dueSubject("the dead do not act", x, 0, OPEN, 3);
        due("dead", x.status(0, 1), DEAD);
        dueActs("the dead do not act", x, 1001);
    }

    private static void waitingStartsWithTheTurn() {
        MessageActs x = new MessageActs();
        x.receive(0, 2, CHANGE, 0, 1);
        x.tick(60);
        due("held, and not dead", x.status(0, 2), HELD);
        x.receive(0, 1, ASK, 0, 0);
        due("50 behind its turn", x.tick(110), 0);
        due("51 behind its turn", x.tick(111), 1);
    }

    private static void onlyThoseThatWaitTooLongAreDead() {
        MessageActs x = new MessageActs();
        x.receive(3, 1, CHANGE, 0, 1);
        x.tick(1);
        x.receive(2, 1, CHANGE, 1, 1);
        x.tick(2);
        x.receive(1, 1, CHANGE, 0, 1);
        due("51 of the first", x.tick(51), 1);
        dueDeads("the first", x, 3001);
        due("two wait", x.count(4), 2);
        due("52 and 51 of the others", x.tick(53), 2);
        dueDeads("in the order of waiting", x, 3001, 2001, 1001);
    }

    public static void main(String[] args) {
        bounds();
        holding();
        turns();
        waiting();
        end();
    }

    private static void bounds() {
        sentence("What it is", "at most 512 calls", HoldAndWaitEdges::lastCallThatIsPromised);
        sentence("Terms", "TIME is 0 .. 100000", HoldAndWaitEdges::timeHasBounds);
        sentence("Terms", "NOW is the latest that was told (0 at first)", HoldAndWaitEdges::nowIsTheLatestTold);
        sentence("Terms", "SENDERS 0 .. 3", HoldAndWaitEdges::sendersHaveBounds);
        sentence("Terms", "SUBJECTS 0 .. 15", HoldAndWaitEdges::subjectsHaveBounds);
        sentence("Terms", "NUMBERS 1 .. 24", HoldAndWaitEdges::numbersHaveBounds);
        sentence("Terms", "a FUNCTION 0 NEW .. 4 CANCEL", HoldAndWaitEdges::functionsHaveBounds);
        sentence("Terms", "a value (-1000 .. 1000)", HoldAndWaitEdges::valuesHaveBounds);
        sentence("Terms", "UNKNOWN (0) at first, a VALUE (0 at first)", HoldAndWaitEdges::subjectsAtFirst);
        sentence("Terms", "UNKNOWN (0), OPEN (1), FIXED (2), CANCELLED (3)",
                HoldAndWaitEdges::subjectsHaveFourStates);
    }

    private static void holding() {
        String held = "HELD as long as a less number of its sender is a GAP";
        sentence("Terms", held, HoldAndWaitEdges::eachLessGapHolds);
        sentence("Terms", held + ": no greater one", HoldAndWaitEdges::noGreaterGapHolds);
        sentence("Terms", held + ": 1 has no less", HoldAndWaitEdges::theFirstNumberIsNeverHeld);
        sentence("Terms", held + ": of its own", HoldAndWaitEdges::anotherSendersGapHoldsNone);
        sentence("Terms", "a GAP did not come", HoldAndWaitEdges::whatCameIsNoGapWhateverCameOfIt);
        sentence("Terms", "a GAP was not skipped", HoldAndWaitEdges::aSkippedNumberHoldsNone);
        sentence("Terms", "LOST: its numbers are gaps again", HoldAndWaitEdges::aLostNumberHolds);
        sentence("Terms", "but one that ASKS", HoldAndWaitEdges::whatAsksIsNeverHeld);
        String turns = "those held behind it have their turns";
        sentence("Terms", turns + " in order of their numbers", HoldAndWaitEdges::heldHaveTurnsInOrderOfNumbers);
        sentence("Terms", turns + " up to the next gap", HoldAndWaitEdges::upToTheNextGap);
        sentence("Terms", turns + ": none behind a less gap", HoldAndWaitEdges::aGapBehindAGapFreesNone);
        sentence("Terms", turns + ": none is held", HoldAndWaitEdges::aGapWithNoneBehindItCloses);
        sentence("Terms", turns + ": by a replay", HoldAndWaitEdges::aGapClosesByReplayToo);
    }

    private static void turns() {
        sentence("Terms", "NEW: else REFUSED by rule 1", HoldAndWaitEdges::newInEachState);
        sentence("Terms", "REPLACE, CHANGE, CANCEL: OPEN", HoldAndWaitEdges::openTakesAllThree);
        sentence("Terms", "not beyond -1000000 .. 1000000", HoldAndWaitEdges::addedUpAsFarAsMessagesGo);
        sentence("Terms", "FIXED: REFUSED by rule 2", HoldAndWaitEdges::fixedRefusesAllThree);
        sentence("Terms", "CANCELLED: REFUSED by rule 3", HoldAndWaitEdges::cancelledRefusesAllThree);
        sentence("Terms", "UNKNOWN: it WAITS", HoldAndWaitEdges::unknownLetsAllThreeWait);
        sentence("Terms", "ASK: ACTS, and changes nothing, in any state", HoldAndWaitEdges::askInEachState);
    }

    private static void waiting() {
        String most = "12 at most in all; one more is REFUSED by rule 5";
        sentence("Terms", most, HoldAndWaitEdges::theThirteenthIsRefused);
        sentence("Terms", most + ": for good", HoldAndWaitEdges::refusedByRule5IsNotWoken);
        sentence("Terms", most + ": of those that wait", HoldAndWaitEdges::fullMattersToThoseThatWouldWaitAlone);
        sentence("Terms", most + ": until one is woken", HoldAndWaitEdges::aPlaceIsFreeWhenOneIsWoken);
        sentence("Terms", most + ": until one is dead", HoldAndWaitEdges::aPlaceIsFreeWhenOneIsDead);
        sentence("Terms", most + ": held is not waiting", HoldAndWaitEdges::whatIsHeldDoesNotWaitYet);
        String again = "its turn again as soon as its subject is not UNKNOWN any more";
        sentence("Terms", again, HoldAndWaitEdges::wokenAsSoonAsKnown);
        sentence("Terms", "of several those that came to wait first", HoldAndWaitEdges::wokenInTheOrderOfWaiting);
        sentence("Terms", again + ": all twelve", HoldAndWaitEdges::allTwelveAreWoken);
        sentence("Terms", again + ": a refusal", HoldAndWaitEdges::wokenMayBeRefused);
        sentence("Terms", again + ": in a tick", HoldAndWaitEdges::wokenByOneThatIsTriedAgain);
        String dead = "waits for more than 50, it is DEAD";
        sentence("Terms", dead, HoldAndWaitEdges::fiftyIsNotTooLong);
        sentence("Terms", dead + ": at the time told", HoldAndWaitEdges::deadAtTheFirstTimeTold);
        sentence("Terms", dead + ": not at 50", HoldAndWaitEdges::wokenAt50IsNotDead);
        sentence("Terms", dead + ": for good", HoldAndWaitEdges::theDeadAreNotWoken);
        sentence("Terms", dead + ": from its turn on", HoldAndWaitEdges::waitingStartsWithTheTurn);
        sentence("Terms", dead + ": each by its own time", HoldAndWaitEdges::onlyThoseThatWaitTooLongAreDead);
    }
}
