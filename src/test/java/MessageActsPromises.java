/** For each promise: ordinary inputs, the edges that the document names, and wrong inputs. */
public final class MessageActsPromises extends Checks {
    // Promise 1

    private static void newObject() {
        MessageActs x = new MessageActs();
        due("NONE", MessageActs.NONE, -1);
        for (int what = 0; what < 6; what++) {
            due("new: count(" + what + ")", x.count(what), 0);
        }
        for (int sender = 0; sender < 4; sender++) {
            due("new: of gap", x.of(sender, 0), 1);
            due("new: of held", x.of(sender, 1), 0);
            due("new: of lost", x.of(sender, 2), 0);
            due("new: of greatest", x.of(sender, 3), 0);
            for (int number = 1; number <= 24; number++) {
                due("new: status", x.status(sender, number), NONE);
                due("new: answer", x.answer(sender, number), 0);
            }
        }
        for (int subject = 0; subject < 16; subject++) {
            for (int what = 0; what < 4; what++) {
                due("new: look", x.look(subject, what), 0);
            }
        }
        due("new: act(0)", x.act(0), NONE);
        due("new: dead(0)", x.dead(0), NONE);
        for (int function = 0; function < 5; function++) {
            due("new: fails off", x.fails(function, false), false);
        }
    }

    private static void objectsAreApart() {
        MessageActs x = new MessageActs();
        MessageActs y = new MessageActs();
        x.receive(0, 1, NEW, 0, 5);
        x.tick(9);
        x.fails(ASK, true);
        due("apart: status", y.status(0, 1), NONE);
        due("apart: look", y.look(0, 0), UNKNOWN);
        due("apart: count acts", y.count(0), 0);
        due("apart: count now", y.count(2), 0);
        due("apart: fails", y.fails(ASK, false), false);
    }

    // Promise 2

    private static void receiveByState() {
        MessageActs x = new MessageActs();
        due("NEW of UNKNOWN", x.receive(0, 1, NEW, 0, -1000), 1);
        dueSubject("NEW of UNKNOWN", x, 0, OPEN, -1000);
        due("NEW of OPEN", x.receive(0, 2, NEW, 0, 3), -1);
        dueSubject("NEW of OPEN", x, 0, OPEN, -1000);
        due("REPLACE of OPEN", x.receive(0, 3, REPLACE, 0, 1000), 1);
        dueSubject("REPLACE of OPEN", x, 0, OPEN, 1000);
        due("CHANGE of OPEN", x.receive(0, 4, CHANGE, 0, -400), 1);
        dueSubject("CHANGE of OPEN", x, 0, OPEN, 600);
        due("ASK of OPEN", x.receive(0, 5, ASK, 0, 77), 1);
        dueSubject("ASK of OPEN", x, 0, OPEN, 600);
        due("CANCEL of OPEN", x.receive(0, 6, CANCEL, 0, 9), 1);
        dueSubject("CANCEL of OPEN", x, 0, CANCELLED, 600);
        due("REPLACE of CANCELLED", x.receive(0, 7, REPLACE, 0, 1), -3);
        due("CHANGE of CANCELLED", x.receive(0, 8, CHANGE, 0, 1), -3);
        due("CANCEL of CANCELLED", x.receive(0, 9, CANCEL, 0, 1), -3);
        due("ASK of CANCELLED", x.receive(0, 10, ASK, 0, 1), 1);
        dueSubject("CANCELLED", x, 0, CANCELLED, 600);
        due("NEW of CANCELLED", x.receive(0, 11, NEW, 0, 8), 1);
        dueSubject("NEW of CANCELLED", x, 0, OPEN, 8);
        due("point", x.point(0), true);
        due("NEW of FIXED", x.receive(0, 12, NEW, 0, 1), -1);
        due("REPLACE of FIXED", x.receive(0, 13, REPLACE, 0, 1), -2);
        due("CHANGE of FIXED", x.receive(0, 14, CHANGE, 0, 1), -2);
        due("CANCEL of FIXED", x.receive(0, 15, CANCEL, 0, 1), -2);
        due("ASK of FIXED", x.receive(0, 16, ASK, 0, 1), 1);
        dueSubject("FIXED", x, 0, FIXED, 8);
        due("REPLACE of UNKNOWN", x.receive(0, 17, REPLACE, 1, 1), 4);
        due("CHANGE of UNKNOWN", x.receive(0, 18, CHANGE, 1, 1), 4);
        due("CANCEL of UNKNOWN", x.receive(0, 19, CANCEL, 1, 1), 4);
        due("ASK of UNKNOWN", x.receive(0, 20, ASK, 1, 1), 1);
        dueSubject("UNKNOWN", x, 1, UNKNOWN, 0);
        dueActs("by state", x, 1, 3, 4, 5, 6, 10, 11, 16, 20);
    }

    private static void receiveHolds() {
        MessageActs x = new MessageActs();
        due("held 2", x.receive(1, 2, NEW, 0, 1), 2);
        due("held 3", x.receive(1, 3, CHANGE, 0, 10), 2);
        due("held 5", x.receive(1, 5, CHANGE, 0, 100), 2);
        due("held 24", x.receive(1, 24, CANCEL, 0, 0), 2);
        due("asks past a gap", x.receive(1, 6, ASK, 0, 0), 1);
        due("another sender is not held", x.receive(2, 1, NEW, 1, 0), 1);
        dueSubject("while held", x, 0, UNKNOWN, 0);
        due("gap closes", x.receive(1, 1, NEW, 2, 7), 1);
        dueSubject("up to the next gap", x, 0, OPEN, 11);
        due("5 is still held", x.status(1, 5), HELD);
        due("an asking message closes a gap", x.receive(1, 4, ASK, 0, 0), 1);
        due("it asked before those behind it", x.answer(1, 4), 111);
        dueSubject("up to 24", x, 0, OPEN, 111);
        due("24 is held", x.status(1, 24), HELD);
        dueActs("held", x, 1006, 2001, 1001, 1002, 1003, 1004, 1005);
    }

    private static void receiveRefusedOrWaitingClosesGap() {
        MessageActs x = new MessageActs();
        x.receive(0, 1, NEW, 0, 1);
        x.receive(0, 3, CHANGE, 0, 1);
        due("refused closes a gap", x.receive(0, 2, NEW, 0, 1), -1);
        due("held had its turn", x.status(0, 3), ACTED);
        x.receive(0, 5, CHANGE, 0, 1);
        due("waiting closes a gap", x.receive(0, 4, CHANGE, 9, 1), 4);
        due("held had its turn", x.status(0, 5), ACTED);
        x.receive(0, 7, CHANGE, 0, 1);
        x.fails(REPLACE, true);
        due("failing closes a gap", x.receive(0, 6, REPLACE, 0, 50), 5);
        due("held had its turn", x.status(0, 7), ACTED);
        dueSubject("changes alone", x, 0, OPEN, 4);
    }

    private static void receiveDoubles() {
        MessageActs x = new MessageActs();
        x.receive(0, 1, NEW, 0, 1);
        due("double of an acted one", x.receive(0, 1, CANCEL, 0, 1), 3);
        x.receive(0, 2, NEW, 0, 1);
        due("double of a refused one", x.receive(0, 2, CANCEL, 0, 1), 3);
        x.receive(0, 3, CHANGE, 1, 1);
        due("double of a waiting one", x.receive(0, 3, NEW, 1, 1), 3);
        x.fails(REPLACE, true);
        x.receive(0, 4, REPLACE, 0, 5);
        due("double of a failed one", x.receive(0, 4, REPLACE, 0, 6), 3);
        x.receive(0, 6, REPLACE, 0, 5);
        due("double of a held one", x.receive(0, 6, ASK, 0, 6), 3);
        due("held stays", x.status(0, 6), HELD);
        dueSubject("doubles", x, 0, OPEN, 1);
        dueSubject("doubles", x, 1, UNKNOWN, 0);
        due("doubles", x.count(3), 5);
        due("acts", x.count(0), 1);
        x.tick(51);
        due("double of a dead one", x.receive(0, 3, NEW, 1, 1), 3);
        due("dead stays", x.status(0, 3), DEAD);
        dueIllegal("a double that tells no function", () -> x.receive(0, 1, 5, 0, 1));
        due("doubles", x.count(3), 6);
    }

    private static void receiveTellsWhatCameOfItAfterAll() {
        MessageActs x = new MessageActs();
        x.receive(0, 2, NEW, 0, 5);
        due("it waits, then the one held behind it opens", x.receive(0, 1, CHANGE, 0, 2), 1);
        dueSubject("opened behind", x, 0, OPEN, 7);
        dueActs("opened behind", x, 2, 1);
        MessageActs y = new MessageActs();
        y.receive(1, 1, CANCEL, 0, 0);
        y.receive(0, 2, NEW, 0, 5);
        due("cancelled ahead of it", y.receive(0, 1, CHANGE, 0, 2), -3);
        MessageActs z = new MessageActs();
        z.fails(CHANGE, true);
        z.receive(0, 2, NEW, 0, 5);
        due("fails as it is woken", z.receive(0, 1, CHANGE, 0, 2), 5);
    }

    private static void waitersComeBeforeHeld() {
        MessageActs x = new MessageActs();
        x.receive(1, 1, REPLACE, 0, 100);
        x.receive(0, 2, CHANGE, 0, 5);
        due("NEW closes the gap", x.receive(0, 1, NEW, 0, 1), 1);
        dueSubject("waiters first", x, 0, OPEN, 105);
        dueActs("waiters first", x, 1, 1001, 2);
    }

    private static void waitersInOrder() {
        MessageActs x = new MessageActs();
        x.receive(3, 1, CHANGE, 5, 3);
        x.receive(1, 1, REPLACE, 6, 9);
        x.receive(0, 1, REPLACE, 5, 10);
        x.receive(2, 1, CANCEL, 5, 0);
        x.receive(2, 2, CHANGE, 5, 1);
        due("opens", x.receive(1, 2, NEW, 5, 1), 1);
        dueSubject("those that came to wait first", x, 5, CANCELLED, 10);
        dueActs("waiters", x, 1002, 3001, 1, 2001);
        due("refused behind the cancel", x.answer(2, 2), -3);
        due("another subject's waiter waits on", x.status(1, 1), WAITS);
        due("one waits", x.count(4), 1);
    }

    private static void twelveWait() {
        MessageActs x = new MessageActs();
        for (int number = 1; number <= 12; number++) {
            due("waits " + number, x.receive(0, number, CHANGE, number % 3, 1), 4);
        }
        due("one more", x.receive(0, 13, CHANGE, 7, 1), -5);
        due("one more", x.receive(1, 1, CANCEL, 0, 1), -5);
        due("asks nevertheless", x.receive(1, 2, ASK, 0, 1), 1);
        due("count waits", x.count(4), 12);
        due("status of one more", x.status(0, 13), REFUSED);
        due("answer of one more", x.answer(0, 13), -5);
        due("opens", x.receive(1, 3, NEW, 0, 0), 1);
        due("eight wait", x.count(4), 8);
        dueSubject("opened", x, 0, OPEN, 4);
        due("room again", x.receive(1, 4, REPLACE, 9, 1), 4);
    }

    private static void twelveWaitForOne() {
        MessageActs x = new MessageActs();
        for (int number = 1; number <= 12; number++) {
            x.receive(0, number, CHANGE, 8, number);
        }
        due("all wait for 8", x.look(8, 3), 12);
        due("opens", x.receive(1, 1, NEW, 8, 100), 1);
        due("none waits", x.count(4), 0);
        dueSubject("all had their turns", x, 8, OPEN, 178);
        dueActs("all had their turns", x, 1001, 1, 2, 3, 4, 5, 6, 7, 8, 9, 10, 11, 12);
    }

    private static void receiveThrows() {
        MessageActs x = new MessageActs();
        for (int sender : WRONG_SENDERS) {
            dueIllegal("receive sender " + sender, () -> x.receive(sender, 1, NEW, 0, 0));
        }
        for (int number : WRONG_NUMBERS) {
            dueIllegal("receive number " + number, () -> x.receive(0, number, NEW, 0, 0));
        }
        for (int function : new int[] {-1, 5, Integer.MIN_VALUE, Integer.MAX_VALUE}) {
            dueIllegal("receive function " + function, () -> x.receive(0, 1, function, 0, 0));
        }
        for (int subject : new int[] {-1, 16, Integer.MIN_VALUE, Integer.MAX_VALUE}) {
            dueIllegal("receive subject " + subject, () -> x.receive(0, 1, NEW, subject, 0));
        }
        for (int v : new int[] {-1001, 1001, Integer.MIN_VALUE, Integer.MAX_VALUE}) {
            dueIllegal("receive value " + v, () -> x.receive(0, 1, NEW, 0, v));
        }
        due("nothing came", x.status(0, 1), NONE);
        due("no act", x.count(0), 0);
        due("no double", x.count(3), 0);
        due("the last of all", x.receive(3, 24, ASK, 15, 1000), 1);
        due("the first of all", x.receive(0, 1, NEW, 0, -1000), 1);
    }

    // Promises 3 and 4

    private static void statusOfEach() {
        MessageActs x = new MessageActs();
        x.receive(0, 1, NEW, 0, 1);
        x.receive(0, 2, NEW, 0, 1);
        x.receive(0, 3, CHANGE, 1, 1);
        x.fails(CHANGE, true);
        x.receive(0, 4, CHANGE, 0, 1);
        x.receive(0, 6, CHANGE, 0, 1);
        due("ACTED", x.status(0, 1), ACTED);
        due("REFUSED", x.status(0, 2), REFUSED);
        due("WAITS", x.status(0, 3), WAITS);
        due("TRIED AGAIN", x.status(0, 4), TRIED_AGAIN);
        due("gap", x.status(0, 5), NONE);
        due("HELD", x.status(0, 6), HELD);
        due("not yet", x.status(0, 7), NONE);
        x.cut(0);
        due("LOST", x.status(0, 6), LOST);
        x.tick(51);
        due("DEAD", x.status(0, 3), DEAD);
        due("acted at last", x.status(0, 4), ACTED);
        for (int sender : WRONG_SENDERS) {
            dueIllegal("status sender " + sender, () -> x.status(sender, 1));
            dueIllegal("answer sender " + sender, () -> x.answer(sender, 1));
        }
        for (int number : WRONG_NUMBERS) {
            dueIllegal("status number " + number, () -> x.status(0, number));
            dueIllegal("answer number " + number, () -> x.answer(0, number));
        }
    }

    private static void answerOfEach() {
        MessageActs x = new MessageActs();
        x.receive(0, 1, NEW, 0, -7);
        x.receive(0, 2, ASK, 0, 1);
        due("asked OPEN", x.answer(0, 2), -69);
        x.receive(0, 3, REPLACE, 0, 12);
        due("as it was then", x.answer(0, 2), -69);
        x.point(0);
        x.receive(0, 4, ASK, 0, 1);
        due("asked FIXED", x.answer(0, 4), 122);
        due("acted", x.answer(0, 1), 0);
        x.receive(0, 5, REPLACE, 0, 12);
        due("refused", x.answer(0, 5), -2);
        x.receive(0, 6, REPLACE, 1, 12);
        due("waits", x.answer(0, 6), 0);
        x.fails(ASK, true);
        x.receive(0, 7, ASK, 1, 12);
        due("asked and failed", x.answer(0, 7), 0);
        x.receive(1, 1, NEW, 1, 4);
        x.receive(0, 8, CANCEL, 1, 4);
        x.tick(0);
        due("asked again CANCELLED", x.answer(0, 7), 123);
        x.receive(0, 10, REPLACE, 0, 1);
        due("held", x.answer(0, 10), 0);
        x.cut(0);
        due("lost", x.answer(0, 10), 0);
        due("did not come", x.answer(0, 9), 0);
        x.fails(ASK, true);
        x.receive(0, 9, ASK, 0, 1);
        x.fails(ASK, true);
        x.tick(0);
        due("asked and dead", x.answer(0, 9), 0);
        due("asked and dead", x.status(0, 9), DEAD);
    }

    // Promise 5

    private static void pointFixes() {
        MessageActs x = new MessageActs();
        due("UNKNOWN", x.point(15), false);
        x.receive(0, 1, NEW, 15, 6);
        due("OPEN", x.point(15), true);
        dueSubject("fixed", x, 15, FIXED, 6);
        due("FIXED", x.point(15), false);
        x.receive(0, 2, NEW, 0, 6);
        x.receive(0, 3, CANCEL, 0, 6);
        due("CANCELLED", x.point(0), false);
        dueSubject("cancelled", x, 0, CANCELLED, 6);
        for (int subject : new int[] {-1, 16, Integer.MIN_VALUE, Integer.MAX_VALUE}) {
            due("point " + subject, x.point(subject), false);
        }
        due("no act by it", x.look(15, 2), 1);
    }

    // Promise 6

    private static void failsAnswers() {
        MessageActs x = new MessageActs();
        for (int function = 0; function < 5; function++) {
            due("is off", x.fails(function, false), false);
            due("on", x.fails(function, true), true);
            due("is on", x.fails(function, true), false);
            due("off", x.fails(function, false), true);
            due("is off", x.fails(function, false), false);
        }
        for (int function : new int[] {-1, 5, Integer.MIN_VALUE, Integer.MAX_VALUE}) {
            due("none such", x.fails(function, true), false);
            due("none such", x.fails(function, false), false);
        }
        x.fails(NEW, true);
        x.fails(NEW, false);
        due("told not to fail", x.receive(0, 1, NEW, 0, 1), 1);
    }

    private static void failsOnlyTheNextAct() {
        MessageActs x = new MessageActs();
        x.fails(NEW, true);
        due("fails", x.receive(0, 1, NEW, 0, 1), 5);
        dueSubject("changed nothing", x, 0, UNKNOWN, 0);
        due("no act", x.look(0, 2), 0);
        due("fails no more", x.fails(NEW, false), false);
        due("the next acts", x.receive(0, 2, NEW, 0, 2), 1);
        x.fails(NEW, true);
        due("a refusal is no act", x.receive(0, 3, NEW, 0, 2), -1);
        due("still told to fail", x.fails(NEW, true), false);
        x.fails(CHANGE, true);
        due("a wait is no act", x.receive(0, 4, CHANGE, 1, 2), 4);
        due("still told to fail", x.fails(CHANGE, true), false);
        due("another function does not fail", x.receive(0, 5, REPLACE, 0, 2), 1);
        due("fails later", x.receive(0, 6, CHANGE, 0, 2), 5);
        x.fails(ASK, true);
        due("asking fails", x.receive(0, 7, ASK, 0, 2), 5);
        x.fails(CANCEL, true);
        due("cancelling fails", x.receive(0, 8, CANCEL, 0, 2), 5);
        dueSubject("nothing changed", x, 0, OPEN, 2);
        due("tried again", x.count(5), 4);
    }

    private static void failsAWaiter() {
        MessageActs x = new MessageActs();
        x.receive(0, 1, CHANGE, 0, 1);
        x.receive(0, 2, CHANGE, 0, 10);
        x.fails(CHANGE, true);
        due("opens", x.receive(1, 1, NEW, 0, 100), 1);
        due("the first that waited failed", x.status(0, 1), TRIED_AGAIN);
        due("the second acted", x.status(0, 2), ACTED);
        due("none waits", x.count(4), 0);
        due("none is dead", x.tick(60), 0);
        dueSubject("tried again", x, 0, OPEN, 111);
        dueActs("tried again", x, 1001, 2, 1);
    }

    // Promise 7

    private static void tickTriesAgain() {
        MessageActs x = new MessageActs();
        x.receive(0, 1, NEW, 0, 1);
        x.fails(CHANGE, true);
        x.receive(3, 1, CHANGE, 0, 5);
        x.fails(REPLACE, true);
        x.receive(2, 1, REPLACE, 0, 50);
        x.fails(CANCEL, true);
        x.receive(1, 1, CANCEL, 0, 0);
        x.fails(REPLACE, true);
        x.receive(0, 2, REPLACE, 0, 3);
        due("four are tried again", x.count(5), 4);
        due("told the same time", x.tick(0), 0);
        dueActs("in the order in which they failed", x, 1, 3001, 2001, 1001);
        due("refused as always", x.status(0, 2), REFUSED);
        due("refused as always", x.answer(0, 2), -3);
        due("none is tried again", x.count(5), 0);
        dueSubject("tried again", x, 0, CANCELLED, 50);
    }

    private static void tickEndsWhatFailsTwice() {
        MessageActs x = new MessageActs();
        x.fails(NEW, true);
        x.receive(0, 1, NEW, 0, 1);
        x.fails(NEW, true);
        x.receive(0, 2, NEW, 1, 1);
        x.fails(NEW, true);
        due("one fails again", x.tick(3), 1);
        due("DEAD", x.status(0, 1), DEAD);
        due("the function fails no more", x.status(0, 2), ACTED);
        dueDeads("failed twice", x, 1);
        dueActs("failed twice", x, 2);
        dueSubject("dead", x, 0, UNKNOWN, 0);
        due("not again", x.tick(4), 0);
    }

    private static void tickLeavesWhatFailsInItToTheNext() {
        MessageActs x = new MessageActs();
        x.fails(NEW, true);
        x.receive(0, 1, NEW, 0, 1);
        x.receive(1, 1, CHANGE, 0, 5);
        x.fails(CHANGE, true);
        due("tick", x.tick(51), 0);
        due("opened ahead of the long wait's end", x.look(0, 0), OPEN);
        due("failed in this tick", x.status(1, 1), TRIED_AGAIN);
        due("one is tried again", x.count(5), 1);
        x.tick(51);
        due("tried in the next", x.status(1, 1), ACTED);
        dueSubject("tried in the next", x, 0, OPEN, 6);
    }

    private static void tickEndsLongWaits() {
        MessageActs x = new MessageActs();
        x.receive(1, 1, CHANGE, 0, 1);
        x.tick(10);
        x.receive(0, 1, CHANGE, 1, 1);
        x.receive(2, 1, CHANGE, 0, 1);
        x.fails(ASK, true);
        x.receive(3, 1, ASK, 0, 1);
        due("50 is not too long", x.tick(50), 0);
        x.fails(ASK, true);
        x.receive(3, 2, ASK, 0, 1);
        x.fails(ASK, true);
        due("failed and waited", x.tick(60), 2);
        due("NOW", x.count(2), 60);
        due("51", x.tick(61), 2);
        dueDeads("in order", x, 3002, 1001, 1, 2001);
        due("none waits", x.count(4), 0);
        due("none waits for 0", x.look(0, 3), 0);
        x.receive(3, 3, NEW, 0, 1);
        dueSubject("the dead do not act", x, 0, OPEN, 1);
    }

    private static void waitStartsAtItsTurn() {
        MessageActs x = new MessageActs();
        x.receive(0, 2, CHANGE, 0, 1);
        x.tick(40);
        x.receive(0, 1, ASK, 0, 1);
        due("waits from its turn on", x.status(0, 2), WAITS);
        due("not yet", x.tick(90), 0);
        due("now", x.tick(91), 1);
    }

    private static void tickThrows() {
        MessageActs x = new MessageActs();
        dueIllegal("tick(-1)", () -> x.tick(-1));
        dueIllegal("tick(100001)", () -> x.tick(100001));
        dueIllegal("tick(min)", () -> x.tick(Integer.MIN_VALUE));
        dueIllegal("tick(max)", () -> x.tick(Integer.MAX_VALUE));
        due("NOW as it was", x.count(2), 0);
        x.tick(500);
        x.fails(NEW, true);
        x.receive(0, 1, NEW, 0, 0);
        dueIllegal("ahead of NOW", () -> x.tick(499));
        due("not tried again", x.status(0, 1), TRIED_AGAIN);
        due("NOW", x.count(2), 500);
        due("the last time", x.tick(100000), 0);
        due("the last time again", x.tick(100000), 0);
        due("NOW", x.count(2), 100000);
    }

    // Promise 8

    private static void skipAfterTime() {
        MessageActs x = new MessageActs();
        due("nothing came", x.skip(0), NONE);
        x.tick(5);
        x.receive(0, 3, NEW, 0, 1);
        x.receive(0, 6, CHANGE, 0, 10);
        x.tick(105);
        due("100 is too early", x.skip(0), NONE);
        due("another sender", x.skip(1), NONE);
        x.tick(106);
        due("1", x.skip(0), 1);
        due("3 is held", x.status(0, 3), HELD);
        due("2", x.skip(0), 2);
        due("3 acted", x.status(0, 3), ACTED);
        due("skipped status", x.status(0, 2), NONE);
        due("gap", x.of(0, 0), 4);
        due("skipped is a double", x.receive(0, 1, NEW, 7, 1), 3);
        due("doubles", x.count(3), 1);
        dueSubject("skipped acts on nothing", x, 7, UNKNOWN, 0);
        due("came in time", x.receive(0, 4, CHANGE, 0, 100), 1);
        due("5", x.skip(0), 5);
        dueSubject("6 acted", x, 0, OPEN, 111);
        due("none greater", x.skip(0), NONE);
        due("gap", x.of(0, 0), 7);
        for (int sender : WRONG_SENDERS) {
            dueIllegal("skip " + sender, () -> x.skip(sender));
        }
    }

    private static void skipBehindAnyThatCame() {
        MessageActs x = new MessageActs();
        x.receive(2, 24, ASK, 0, 0);
        x.tick(101);
        due("one that asked is enough", x.skip(2), 1);
        MessageActs y = new MessageActs();
        y.receive(2, 2, NEW, 0, 0);
        y.tick(60);
        y.receive(2, 4, NEW, 0, 0);
        y.tick(101);
        due("1", y.skip(2), 1);
        due("4 came too late", y.skip(2), NONE);
        y.tick(161);
        due("3", y.skip(2), 3);
    }

    private static void skipAllNumbers() {
        MessageActs x = new MessageActs();
        for (int number = 1; number <= 23; number++) {
            x.receive(0, number, ASK, 0, 0);
        }
        x.tick(1000);
        due("the last is a gap", x.of(0, 0), 24);
        due("none is greater than the last", x.skip(0), NONE);
        x.receive(0, 24, ASK, 0, 0);
        x.tick(2000);
        due("no gap", x.skip(0), NONE);
        due("no gap", x.of(0, 0), 25);
    }

    private static void skipAndLost() {
        MessageActs x = new MessageActs();
        x.receive(0, 2, NEW, 0, 3);
        x.receive(0, 3, CHANGE, 0, 4);
        x.cut(0);
        x.tick(101);
        due("what is lost did not come", x.skip(0), NONE);
        x.receive(0, 4, CHANGE, 0, 5);
        x.tick(202);
        due("1", x.skip(0), 1);
        due("a lost one", x.skip(0), 2);
        due("a lost one that was skipped is LOST", x.status(0, 2), LOST);
        due("lost", x.of(0, 2), 2);
        due("it is a double", x.receive(0, 2, NEW, 0, 3), 3);
        due("only 3 comes again", x.replay(0, 1), 1);
        due("lost", x.of(0, 2), 1);
        due("3 waits", x.status(0, 3), WAITS);
        due("4 waits", x.status(0, 4), WAITS);
        due("gap", x.of(0, 0), 5);
    }

    // Promises 9 and 10

    private static void cutLosesHeld() {
        MessageActs x = new MessageActs();
        x.receive(0, 1, NEW, 0, 1);
        x.receive(0, 2, CHANGE, 9, 1);
        x.receive(0, 4, CHANGE, 0, 1);
        x.receive(0, 6, CHANGE, 0, 1);
        x.receive(0, 8, ASK, 0, 1);
        x.receive(1, 2, CHANGE, 0, 1);
        due("held", x.of(0, 1), 2);
        due("greatest", x.of(0, 3), 8);
        due("cut", x.cut(0), 2);
        due("held", x.of(0, 1), 0);
        due("lost", x.of(0, 2), 2);
        due("acted stays", x.status(0, 1), ACTED);
        due("waiting stays", x.status(0, 2), WAITS);
        due("asked stays", x.status(0, 8), ACTED);
        due("another sender's stays", x.status(1, 2), HELD);
        due("nothing more", x.cut(0), 0);
        due("lost are still lost", x.of(0, 2), 2);
        due("3 comes, 4 is a gap", x.receive(0, 3, CHANGE, 0, 10), 1);
        due("gap", x.of(0, 0), 4);
        due("5 is held", x.receive(0, 5, CHANGE, 0, 100), 2);
        due("4 comes anew, otherwise", x.receive(0, 4, REPLACE, 0, 500), 1);
        dueSubject("4 and 5", x, 0, OPEN, 600);
        due("no double", x.count(3), 0);
        due("lost", x.of(0, 2), 1);
        due("replayed", x.replay(0, 1), 1);
        dueSubject("6", x, 0, OPEN, 601);
        for (int sender : WRONG_SENDERS) {
            dueIllegal("cut " + sender, () -> x.cut(sender));
        }
    }

    private static void replayFromANumber() {
        MessageActs x = new MessageActs();
        x.receive(3, 3, REPLACE, 2, 30);
        x.receive(3, 5, CHANGE, 2, 5);
        x.receive(3, 24, CANCEL, 2, 0);
        x.cut(3);
        due("another sender", x.replay(0, 1), 0);
        due("from 6", x.replay(3, 6), 1);
        due("lost", x.of(3, 2), 2);
        due("held", x.of(3, 1), 1);
        due("greatest", x.of(3, 3), 24);
        due("not twice", x.replay(3, 24), 0);
        x.receive(3, 1, NEW, 2, 1);
        x.receive(3, 2, ASK, 2, 0);
        due("4 is held", x.receive(3, 4, CHANGE, 2, 100), 2);
        due("from 3", x.replay(3, 3), 2);
        dueActs("in order, as they were", x, 3001, 3002, 3003, 3004, 3005);
        dueSubject("in order, as they were", x, 2, OPEN, 135);
        due("none is lost", x.of(3, 2), 0);
        due("no double", x.count(3), 0);
        for (int sender : WRONG_SENDERS) {
            dueIllegal("replay sender " + sender, () -> x.replay(sender, 1));
        }
        for (int number : WRONG_NUMBERS) {
            dueIllegal("replay number " + number, () -> x.replay(0, number));
        }
    }

    private static void replayComesNow() {
        MessageActs x = new MessageActs();
        x.receive(0, 2, NEW, 0, 1);
        x.cut(0);
        x.tick(200);
        due("comes again", x.replay(0, 2), 1);
        due("it came now", x.skip(0), NONE);
        x.tick(300);
        due("100 is too early", x.skip(0), NONE);
        x.tick(301);
        due("101", x.skip(0), 1);
        due("acted", x.status(0, 2), ACTED);
    }

    // Promise 11

    private static void lookAtSubjects() {
        MessageActs x = new MessageActs();
        x.receive(0, 1, CHANGE, 4, 3);
        x.receive(0, 2, CHANGE, 4, 3);
        x.receive(0, 3, CHANGE, 5, 3);
        x.receive(0, 4, ASK, 4, 3);
        due("wait for 4", x.look(4, 3), 2);
        due("wait for 5", x.look(5, 3), 1);
        due("asked", x.look(4, 2), 1);
        x.receive(0, 5, NEW, 4, 7);
        dueSubject("look", x, 4, OPEN, 13);
        due("acts", x.look(4, 2), 4);
        due("none waits", x.look(4, 3), 0);
        x.receive(0, 6, NEW, 4, 7);
        due("a refusal is no act", x.look(4, 2), 4);
        due("acts on another", x.look(5, 2), 0);
        for (int subject : new int[] {-1, 16, Integer.MIN_VALUE, Integer.MAX_VALUE}) {
            dueIndex("look subject " + subject, () -> x.look(subject, 0));
            dueIndex("look subject and what " + subject, () -> x.look(subject, subject));
        }
        for (int what : new int[] {-1, 4, Integer.MIN_VALUE, Integer.MAX_VALUE}) {
            dueIndex("look what " + what, () -> x.look(0, what));
        }
    }

    // Promises 12 and 13

    private static void everyMessageActsOnce() {
        MessageActs x = new MessageActs();
        for (int sender = 0; sender < 4; sender++) {
            for (int number = 24; number > 0; number--) {
                x.receive(sender, number, number == 1 ? NEW : CHANGE, sender, 1000);
            }
        }
        for (int i = 0; i < 96; i++) {
            due("act(" + i + ")", x.act(i), 1000 * (i / 24) + i % 24 + 1);
        }
        due("act(96)", x.act(96), NONE);
        for (int i : new int[] {-1, Integer.MIN_VALUE, Integer.MAX_VALUE}) {
            due("act " + i, x.act(i), NONE);
            due("dead " + i, x.dead(i), NONE);
        }
        dueSubject("all", x, 3, OPEN, 24000);
        due("acts", x.look(3, 2), 24);
        due("gap", x.of(3, 0), 25);
        due("all are doubles", x.receive(3, 24, NEW, 0, 0), 3);
    }

    private static void everyMessageDies() {
        MessageActs x = new MessageActs();
        for (int i = 0; i < 96; i++) {
            x.fails(ASK, true);
            x.receive(i / 24, i % 24 + 1, ASK, 0, 0);
            x.fails(ASK, true);
            due("dead by it", x.tick(i), 1);
        }
        for (int i = 0; i < 96; i++) {
            due("dead(" + i + ")", x.dead(i), 1000 * (i / 24) + i % 24 + 1);
        }
        due("dead(96)", x.dead(96), NONE);
        due("no act", x.count(0), 0);
        due("asked in vain", x.look(0, 2), 0);
    }

    // Promise 14

    private static void ofSenders() {
        MessageActs x = new MessageActs();
        x.receive(1, 1, ASK, 0, 0);
        x.receive(1, 3, NEW, 0, 0);
        x.receive(1, 9, NEW, 0, 0);
        due("gap", x.of(1, 0), 2);
        due("held", x.of(1, 1), 2);
        due("lost", x.of(1, 2), 0);
        due("greatest", x.of(1, 3), 9);
        x.cut(1);
        due("held", x.of(1, 1), 0);
        due("lost", x.of(1, 2), 2);
        due("greatest that is not lost", x.of(1, 3), 1);
        due("another sender", x.of(2, 3), 0);
        for (int sender : WRONG_SENDERS) {
            due("of sender " + sender, x.of(sender, 0), NONE);
        }
        for (int what : new int[] {-1, 4, Integer.MIN_VALUE, Integer.MAX_VALUE}) {
            due("of what " + what, x.of(0, what), NONE);
        }
        MessageActs y = new MessageActs();
        y.receive(0, 2, NEW, 0, 0);
        y.cut(0);
        due("all are lost", y.of(0, 3), 0);
    }

    // Promise 15

    private static void counts() {
        MessageActs x = new MessageActs();
        x.receive(0, 1, NEW, 0, 0);
        x.receive(0, 1, NEW, 0, 0);
        x.receive(0, 2, CHANGE, 1, 0);
        x.receive(0, 3, CHANGE, 1, 0);
        x.fails(ASK, true);
        x.receive(0, 4, ASK, 1, 0);
        x.tick(0);
        x.fails(ASK, true);
        x.receive(0, 5, ASK, 1, 0);
        due("acts", x.count(0), 2);
        due("dead", x.count(1), 0);
        due("NOW", x.count(2), 0);
        due("doubles", x.count(3), 1);
        due("wait", x.count(4), 2);
        due("tried again", x.count(5), 1);
        x.tick(51);
        due("acts", x.count(0), 3);
        due("dead", x.count(1), 2);
        due("NOW", x.count(2), 51);
        due("wait", x.count(4), 0);
        due("tried again", x.count(5), 0);
        for (int what : new int[] {-1, 6, Integer.MIN_VALUE, Integer.MAX_VALUE}) {
            due("count what " + what, x.count(what), NONE);
        }
    }

    public static void main(String[] args) {
        newObject();
        objectsAreApart();
        receiveByState();
        receiveHolds();
        receiveRefusedOrWaitingClosesGap();
        receiveDoubles();
        receiveTellsWhatCameOfItAfterAll();
        waitersComeBeforeHeld();
        waitersInOrder();
        twelveWait();
        twelveWaitForOne();
        receiveThrows();
        statusOfEach();
        answerOfEach();
        pointFixes();
        failsAnswers();
        failsOnlyTheNextAct();
        failsAWaiter();
        tickTriesAgain();
        tickEndsWhatFailsTwice();
        tickLeavesWhatFailsInItToTheNext();
        tickEndsLongWaits();
        waitStartsAtItsTurn();
        tickThrows();
        skipAfterTime();
        skipBehindAnyThatCame();
        skipAllNumbers();
        skipAndLost();
        cutLosesHeld();
        replayFromANumber();
        replayComesNow();
        lookAtSubjects();
        everyMessageActsOnce();
        everyMessageDies();
        ofSenders();
        counts();
        end();
    }
}
